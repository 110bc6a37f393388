/-! ===== the reference weighs a showing ===== -/
/-- the values of showing k of the reference -/
def enM (M : mM) (k : Nat) : Env := fun i => if i = 0 then gi M 61 (gi M 67 k).toNat else if i = 1 then gi M 62 (gi M 67 k).toNat else if i = 2 then gi M 68 k else if i = 3 then gi M 69 k else if i = 4 then gi M 70 k else if i = 5 then wr (gi M 70 k - gi M 69 k) else if i = 6 then gi M 55 (gi M 57 (gi M 67 k).toNat).toNat else if i = 7 then gi M 63 (gi M 67 k).toNat else if lo M (gi M 67) k = k then 1 else 0
/-- showings 0..k are facts -/
def SFM (M : mM) (k : Nat) : Prop := k < 1728 ∧ ∀ j, j ≤ k → ∃ f : Nat, gi M 67 j = f ∧ f < 300 ∧ (0 ≤ gi M 57 f ∧ gi M 57 f < 6) ∧ (gi M 63 f = 0 ∨ gi M 63 f = 1)
theorem y_variable {d : Nat} {M : mM} {Q : mV → mM → Prop} {k : Nat} {v : Int} (h : SH M) (hs : SFM M k) (h0 : 0 ≤ v) (h6 : v ≤ 6) : CP (mc (d + 1)) 162 [vr (some 35), vi v, vi k] M Q = Q (vi (enM M k v.toNat)) M := by
  obtain ⟨hk, hs⟩ := hs
  obtain ⟨f, hf, f3, ⟨s0, s6⟩, -⟩ := hs k (Nat.le_refl k)
  have k0 : (0 ≤ (k : Int)) = True := eq_true (by omega)
  have k1 : ((k : Int) < 1728) = True := eq_true (by omega)
  have f0 : (0 ≤ (f : Int)) = True := eq_true (by omega)
  have f1 : ((f : Int) < 300) = True := eq_true (by omega)
  unfold enM
  rw [hf]
  rcases (show v = 0 ∨ v = 1 ∨ v = 2 ∨ v = 3 ∨ v = 4 ∨ v = 5 ∨ v = 6 by omega) with rfl | rfl | rfl | rfl | rfl | rfl | rfl
  · simp only [↓cpX12_variable, ↓eX12_variable_0, ↓eX12_variable_1, ↓eX12_variable_4, ↓eX12_variable_5, ↓eX12_variable_6, ↓eX12_variable_7, ↓eX12_variable_8, ↓eX12_variable_48, ↓eX12_variable_49, ↓eX12_variable_52, ↓eX12_variable_53, ↓eX12_variable_54, ↓eX12_variable_55, ↓eX12_variable_56, ↓eX12_variable_59, ↓eX12_variable_60, ↓eX12_variable_61, ↓eX12_variable_62, ↓eX12_variable_63, ↓eX12_variable_66, ↓eX12_variable_67, ↓eX12_variable_68, ↓eX12_variable_69, ↓eX12_variable_70, ↓eX12_variable_73, ↓eX12_variable_74, ↓eX12_variable_75, ↓eX12_variable_76, ↓eX12_variable_77, ↓eX12_variable_80, ↓eX12_variable_81, ↓eX12_variable_82, ↓eX12_variable_83, ↓eX12_variable_84, ↓eX12_variable_87, ↓eX12_variable_88, ↓eX12_variable_89, ↓eX12_variable_90, ↓eX12_variable_93, ↓eX12_variable_94, ↓eX12_variable_95, ↓eX12_variable_96, ↓eX12_variable_97, ↓eX12_variable_98, ↓eX12_variable_101, ↓eX12_variable_102, ↓eX12_variable_105, ↓eX12_variable_106, ↓eX12_variable_107, ↓eX12_variable_108, hk35 h, hr35_56 h, hk67 h, hl67 h, hr35_43 h, hk61 h, hl61 h, hf, k0, k1, f0, f1, Int.cast_ofNat_Int, kd_si, gr_si, ln_si, gi_same, gi_na, gi_ni, nl_i, nl_r, nl_j, nj_i, nj_l, nj_r, true_and, and_true, and_self, cs_0, cs_1, cs_2, cs_3, cs_4, ↓reduceIte, Nat.reduceLeDiff, Nat.reduceEqDiff, Nat.reduceAdd, Int.reduceLE, Int.reduceLT, Int.reduceEq, Int.reduceAdd, Int.reduceNeg, Int.reduceToNat, Int.toNat_natCast, ne_eq, not_false_eq_true, not_true_eq_false, or_true, true_or, or_false, false_or]
  · simp only [↓cpX12_variable, ↓eX12_variable_0, ↓eX12_variable_1, ↓eX12_variable_4, ↓eX12_variable_5, ↓eX12_variable_6, ↓eX12_variable_7, ↓eX12_variable_8, ↓eX12_variable_48, ↓eX12_variable_49, ↓eX12_variable_52, ↓eX12_variable_53, ↓eX12_variable_54, ↓eX12_variable_55, ↓eX12_variable_56, ↓eX12_variable_59, ↓eX12_variable_60, ↓eX12_variable_61, ↓eX12_variable_62, ↓eX12_variable_63, ↓eX12_variable_66, ↓eX12_variable_67, ↓eX12_variable_68, ↓eX12_variable_69, ↓eX12_variable_70, ↓eX12_variable_73, ↓eX12_variable_74, ↓eX12_variable_75, ↓eX12_variable_76, ↓eX12_variable_77, ↓eX12_variable_80, ↓eX12_variable_81, ↓eX12_variable_82, ↓eX12_variable_83, ↓eX12_variable_84, ↓eX12_variable_87, ↓eX12_variable_88, ↓eX12_variable_89, ↓eX12_variable_90, ↓eX12_variable_93, ↓eX12_variable_94, ↓eX12_variable_95, ↓eX12_variable_96, ↓eX12_variable_97, ↓eX12_variable_98, ↓eX12_variable_101, ↓eX12_variable_102, ↓eX12_variable_105, ↓eX12_variable_106, ↓eX12_variable_107, ↓eX12_variable_108, hk35 h, hr35_56 h, hk67 h, hl67 h, hr35_44 h, hk62 h, hl62 h, hf, k0, k1, f0, f1, Nat.one_ne_zero, Int.cast_ofNat_Int, kd_si, gr_si, ln_si, gi_same, gi_na, gi_ni, nl_i, nl_r, nl_j, nj_i, nj_l, nj_r, true_and, and_true, and_self, cs_0, cs_1, cs_2, cs_3, cs_4, ↓reduceIte, Nat.reduceLeDiff, Nat.reduceEqDiff, Nat.reduceAdd, Int.reduceLE, Int.reduceLT, Int.reduceEq, Int.reduceAdd, Int.reduceNeg, Int.reduceToNat, Int.toNat_natCast, ne_eq, not_false_eq_true, not_true_eq_false, or_true, true_or, or_false, false_or]
  · simp only [↓cpX12_variable, ↓eX12_variable_0, ↓eX12_variable_1, ↓eX12_variable_4, ↓eX12_variable_5, ↓eX12_variable_6, ↓eX12_variable_7, ↓eX12_variable_8, ↓eX12_variable_48, ↓eX12_variable_49, ↓eX12_variable_52, ↓eX12_variable_53, ↓eX12_variable_54, ↓eX12_variable_55, ↓eX12_variable_56, ↓eX12_variable_59, ↓eX12_variable_60, ↓eX12_variable_61, ↓eX12_variable_62, ↓eX12_variable_63, ↓eX12_variable_66, ↓eX12_variable_67, ↓eX12_variable_68, ↓eX12_variable_69, ↓eX12_variable_70, ↓eX12_variable_73, ↓eX12_variable_74, ↓eX12_variable_75, ↓eX12_variable_76, ↓eX12_variable_77, ↓eX12_variable_80, ↓eX12_variable_81, ↓eX12_variable_82, ↓eX12_variable_83, ↓eX12_variable_84, ↓eX12_variable_87, ↓eX12_variable_88, ↓eX12_variable_89, ↓eX12_variable_90, ↓eX12_variable_93, ↓eX12_variable_94, ↓eX12_variable_95, ↓eX12_variable_96, ↓eX12_variable_97, ↓eX12_variable_98, ↓eX12_variable_101, ↓eX12_variable_102, ↓eX12_variable_105, ↓eX12_variable_106, ↓eX12_variable_107, ↓eX12_variable_108, hk35 h, hr35_56 h, hk67 h, hl67 h, hr35_57 h, hk68 h, hl68 h, hf, k0, k1, f0, f1, Int.cast_ofNat_Int, kd_si, gr_si, ln_si, gi_same, gi_na, gi_ni, nl_i, nl_r, nl_j, nj_i, nj_l, nj_r, true_and, and_true, and_self, cs_0, cs_1, cs_2, cs_3, cs_4, ↓reduceIte, Nat.reduceLeDiff, Nat.reduceEqDiff, Nat.reduceAdd, Int.reduceLE, Int.reduceLT, Int.reduceEq, Int.reduceAdd, Int.reduceNeg, Int.reduceToNat, Int.toNat_natCast, ne_eq, not_false_eq_true, not_true_eq_false, or_true, true_or, or_false, false_or]
  · simp only [↓cpX12_variable, ↓eX12_variable_0, ↓eX12_variable_1, ↓eX12_variable_4, ↓eX12_variable_5, ↓eX12_variable_6, ↓eX12_variable_7, ↓eX12_variable_8, ↓eX12_variable_48, ↓eX12_variable_49, ↓eX12_variable_52, ↓eX12_variable_53, ↓eX12_variable_54, ↓eX12_variable_55, ↓eX12_variable_56, ↓eX12_variable_59, ↓eX12_variable_60, ↓eX12_variable_61, ↓eX12_variable_62, ↓eX12_variable_63, ↓eX12_variable_66, ↓eX12_variable_67, ↓eX12_variable_68, ↓eX12_variable_69, ↓eX12_variable_70, ↓eX12_variable_73, ↓eX12_variable_74, ↓eX12_variable_75, ↓eX12_variable_76, ↓eX12_variable_77, ↓eX12_variable_80, ↓eX12_variable_81, ↓eX12_variable_82, ↓eX12_variable_83, ↓eX12_variable_84, ↓eX12_variable_87, ↓eX12_variable_88, ↓eX12_variable_89, ↓eX12_variable_90, ↓eX12_variable_93, ↓eX12_variable_94, ↓eX12_variable_95, ↓eX12_variable_96, ↓eX12_variable_97, ↓eX12_variable_98, ↓eX12_variable_101, ↓eX12_variable_102, ↓eX12_variable_105, ↓eX12_variable_106, ↓eX12_variable_107, ↓eX12_variable_108, hk35 h, hr35_56 h, hk67 h, hl67 h, hr35_58 h, hk69 h, hl69 h, hf, k0, k1, f0, f1, Int.cast_ofNat_Int, kd_si, gr_si, ln_si, gi_same, gi_na, gi_ni, nl_i, nl_r, nl_j, nj_i, nj_l, nj_r, true_and, and_true, and_self, cs_0, cs_1, cs_2, cs_3, cs_4, ↓reduceIte, Nat.reduceLeDiff, Nat.reduceEqDiff, Nat.reduceAdd, Int.reduceLE, Int.reduceLT, Int.reduceEq, Int.reduceAdd, Int.reduceNeg, Int.reduceToNat, Int.toNat_natCast, ne_eq, not_false_eq_true, not_true_eq_false, or_true, true_or, or_false, false_or]
  · simp only [↓cpX12_variable, ↓eX12_variable_0, ↓eX12_variable_1, ↓eX12_variable_4, ↓eX12_variable_5, ↓eX12_variable_6, ↓eX12_variable_7, ↓eX12_variable_8, ↓eX12_variable_48, ↓eX12_variable_49, ↓eX12_variable_52, ↓eX12_variable_53, ↓eX12_variable_54, ↓eX12_variable_55, ↓eX12_variable_56, ↓eX12_variable_59, ↓eX12_variable_60, ↓eX12_variable_61, ↓eX12_variable_62, ↓eX12_variable_63, ↓eX12_variable_66, ↓eX12_variable_67, ↓eX12_variable_68, ↓eX12_variable_69, ↓eX12_variable_70, ↓eX12_variable_73, ↓eX12_variable_74, ↓eX12_variable_75, ↓eX12_variable_76, ↓eX12_variable_77, ↓eX12_variable_80, ↓eX12_variable_81, ↓eX12_variable_82, ↓eX12_variable_83, ↓eX12_variable_84, ↓eX12_variable_87, ↓eX12_variable_88, ↓eX12_variable_89, ↓eX12_variable_90, ↓eX12_variable_93, ↓eX12_variable_94, ↓eX12_variable_95, ↓eX12_variable_96, ↓eX12_variable_97, ↓eX12_variable_98, ↓eX12_variable_101, ↓eX12_variable_102, ↓eX12_variable_105, ↓eX12_variable_106, ↓eX12_variable_107, ↓eX12_variable_108, hk35 h, hr35_56 h, hk67 h, hl67 h, hr35_59 h, hk70 h, hl70 h, hf, k0, k1, f0, f1, Int.cast_ofNat_Int, kd_si, gr_si, ln_si, gi_same, gi_na, gi_ni, nl_i, nl_r, nl_j, nj_i, nj_l, nj_r, true_and, and_true, and_self, cs_0, cs_1, cs_2, cs_3, cs_4, ↓reduceIte, Nat.reduceLeDiff, Nat.reduceEqDiff, Nat.reduceAdd, Int.reduceLE, Int.reduceLT, Int.reduceEq, Int.reduceAdd, Int.reduceNeg, Int.reduceToNat, Int.toNat_natCast, ne_eq, not_false_eq_true, not_true_eq_false, or_true, true_or, or_false, false_or]
  · simp only [↓cpX12_variable, ↓eX12_variable_0, ↓eX12_variable_1, ↓eX12_variable_4, ↓eX12_variable_5, ↓eX12_variable_6, ↓eX12_variable_7, ↓eX12_variable_8, ↓eX12_variable_48, ↓eX12_variable_49, ↓eX12_variable_52, ↓eX12_variable_53, ↓eX12_variable_54, ↓eX12_variable_55, ↓eX12_variable_56, ↓eX12_variable_59, ↓eX12_variable_60, ↓eX12_variable_61, ↓eX12_variable_62, ↓eX12_variable_63, ↓eX12_variable_66, ↓eX12_variable_67, ↓eX12_variable_68, ↓eX12_variable_69, ↓eX12_variable_70, ↓eX12_variable_73, ↓eX12_variable_74, ↓eX12_variable_75, ↓eX12_variable_76, ↓eX12_variable_77, ↓eX12_variable_80, ↓eX12_variable_81, ↓eX12_variable_82, ↓eX12_variable_83, ↓eX12_variable_84, ↓eX12_variable_87, ↓eX12_variable_88, ↓eX12_variable_89, ↓eX12_variable_90, ↓eX12_variable_93, ↓eX12_variable_94, ↓eX12_variable_95, ↓eX12_variable_96, ↓eX12_variable_97, ↓eX12_variable_98, ↓eX12_variable_101, ↓eX12_variable_102, ↓eX12_variable_105, ↓eX12_variable_106, ↓eX12_variable_107, ↓eX12_variable_108, hk35 h, hr35_56 h, hk67 h, hl67 h, hr35_58 h, hr35_59 h, hk69 h, hl69 h, hk70 h, hl70 h, hf, k0, k1, f0, f1, Int.cast_ofNat_Int, kd_si, gr_si, ln_si, gi_same, gi_na, gi_ni, nl_i, nl_r, nl_j, nj_i, nj_l, nj_r, true_and, and_true, and_self, cs_0, cs_1, cs_2, cs_3, cs_4, ↓reduceIte, Nat.reduceLeDiff, Nat.reduceEqDiff, Nat.reduceAdd, Int.reduceLE, Int.reduceLT, Int.reduceEq, Int.reduceAdd, Int.reduceNeg, Int.reduceToNat, Int.toNat_natCast, ne_eq, not_false_eq_true, not_true_eq_false, or_true, true_or, or_false, false_or]
  · simp only [↓cpX12_variable, ↓eX12_variable_0, ↓eX12_variable_1, ↓eX12_variable_4, ↓eX12_variable_5, ↓eX12_variable_6, ↓eX12_variable_7, ↓eX12_variable_8, ↓eX12_variable_48, ↓eX12_variable_49, ↓eX12_variable_52, ↓eX12_variable_53, ↓eX12_variable_54, ↓eX12_variable_55, ↓eX12_variable_56, ↓eX12_variable_59, ↓eX12_variable_60, ↓eX12_variable_61, ↓eX12_variable_62, ↓eX12_variable_63, ↓eX12_variable_66, ↓eX12_variable_67, ↓eX12_variable_68, ↓eX12_variable_69, ↓eX12_variable_70, ↓eX12_variable_73, ↓eX12_variable_74, ↓eX12_variable_75, ↓eX12_variable_76, ↓eX12_variable_77, ↓eX12_variable_80, ↓eX12_variable_81, ↓eX12_variable_82, ↓eX12_variable_83, ↓eX12_variable_84, ↓eX12_variable_87, ↓eX12_variable_88, ↓eX12_variable_89, ↓eX12_variable_90, ↓eX12_variable_93, ↓eX12_variable_94, ↓eX12_variable_95, ↓eX12_variable_96, ↓eX12_variable_97, ↓eX12_variable_98, ↓eX12_variable_101, ↓eX12_variable_102, ↓eX12_variable_105, ↓eX12_variable_106, ↓eX12_variable_107, ↓eX12_variable_108, hk35 h, hr35_56 h, hk67 h, hl67 h, hr35_36 h, hr35_39 h, hk55 h, hl55 h, hk57 h, hl57 h, hf, k0, k1, f0, f1, s0, s6, Int.cast_ofNat_Int, kd_si, gr_si, ln_si, gi_same, gi_na, gi_ni, nl_i, nl_r, nl_j, nj_i, nj_l, nj_r, true_and, and_true, and_self, cs_0, cs_1, cs_2, cs_3, cs_4, ↓reduceIte, Nat.reduceLeDiff, Nat.reduceEqDiff, Nat.reduceAdd, Int.reduceLE, Int.reduceLT, Int.reduceEq, Int.reduceAdd, Int.reduceNeg, Int.reduceToNat, Int.toNat_natCast, ne_eq, not_false_eq_true, not_true_eq_false, or_true, true_or, or_false, false_or]
theorem rM_len {N : mM} {lo : Nat} (e : Env) : ∀ n, (rM N lo n e).length ≤ n := by
  intro n
  induction n with
  | zero => exact Nat.le_refl 0
  | succ n ih =>
    rw [rM]
    unfold stM
    split
    · rw [List.length_cons]; omega
    · generalize rM N lo n e = S at *
      match S with
      | [] => exact Nat.zero_le _
      | [a] => exact Nat.zero_le _
      | b :: a :: r =>
        show _ ≤ _
        rw [apM, List.length_cons]
        rw [List.length_cons, List.length_cons] at ih
        omega
theorem enM_eq {M N : mM} {k : Nat} (hD : DF (fun b => b = 71) M N) : enM N k = enM M k := by
  have o : ∀ a i, a ≠ 71 → gi N a i = gi M a i := fun a i ha => hD.2 a i ha
  have e67 : gi N 67 = gi M 67 := by funext j; exact o 67 j (by decide)
  have el : lo N (gi N 67) k = lo M (gi M 67) k := by
    rw [e67]
    exact lo_eq (m := k + 1) (fun j _ => ⟨o 61 _ (by decide), o 62 _ (by decide)⟩) (Nat.lt_succ_self k)
  funext i
  unfold enM
  rw [el]
  simp only [fun i => o 61 i (by decide), fun i => o 62 i (by decide), fun i => o 68 i (by decide), fun i => o 69 i (by decide), fun i => o 70 i (by decide), fun i => o 55 i (by decide), fun i => o 57 i (by decide), fun i => o 63 i (by decide), fun i => o 67 i (by decide)]
theorem SFM_D {M N : mM} {k : Nat} (hD : DF (fun b => b = 71) M N) (h : SFM M k) : SFM N k := by
  refine ⟨h.1, fun j hj => ?_⟩
  obtain ⟨f, a, b, c, e⟩ := h.2 j hj
  exact ⟨f, by rw [hD.2 67 j (by decide)]; exact a, b, by rw [hD.2 57 f (by decide)]; exact c, by rw [hD.2 63 f (by decide)]; exact e⟩
theorem y_val_loop {d : Nat} {M : mM} {Q : mV → mM → Prop} {a hi k : Nat} {x : Int} (h : SH M) (hs : SFM M k) (hle : a ≤ hi) (h1 : hi ≤ 1000) (h4 : hi - a ≤ 402) (hg : gM M a (hi - a)) (hr : rM M a (hi - a) (enM M k) = [x]) (a1 : mV)
    (hQ : ∀ N, DF (fun b => b = 71) M N → Q (vi x) N) :
    ∀ (f j : Nat) (N : mM) (a6 a7 : mV), j + f = hi - a → nl a6 → DF (fun b => b = 71) M N → stk (gi N 71) (rM M a j (enM M k)) → WP (mc (d + 1)) tX12_value 6 [vr (some 35), a1, vi hi, vi k, vi ((rM M a j (enM M k)).length : Nat), vi (a + j : Nat), a6, a7] [] N Q := by
  intro f
  induction f with
  | zero =>
    intro j N a6 a7 hj n6 hD hst
    have ej : j = hi - a := by omega
    have e1 : ((hi : Nat) : Int) ≤ ((a + j : Nat) : Int) := by omega
    have hN := DF_SH hD h
    rw [ej, hr] at hst ⊢
    rw [← ej]
    have s0 : gi N 71 0 = x := hst.1
    rw [eX12_value_6]
    simp only [↓eX12_value_8, ↓eX12_value_9, ↓eX12_value_149, ↓eX12_value_150, ↓eX12_value_153, ↓eX12_value_154, ↓eX12_value_155, hk35 hN, hr35_60 hN, hk71 hN, hl71 hN, e1, s0, Int.cast_ofNat_Int, kd_si, gr_si, ln_si, gi_same, gi_na, gi_ni, nl_i, nl_r, nl_j, nj_i, nj_l, nj_r, true_and, and_true, and_self, cs_0, cs_1, cs_2, cs_3, cs_4, ↓reduceIte, Nat.reduceLeDiff, Nat.reduceEqDiff, Nat.reduceAdd, Int.reduceLE, Int.reduceLT, Int.reduceEq, Int.reduceAdd, Int.reduceNeg, Int.reduceToNat, Int.toNat_natCast, ne_eq, not_false_eq_true, not_true_eq_false, or_true, true_or, or_false, false_or]
    exact hQ N hD
  | succ f ih =>
    intro j N a6 a7 hj n6 hD hst
    have e1 : (((hi : Nat) : Int) ≤ ((a + j : Nat) : Int)) = False := eq_false (by omega)
    have e2 : wr (((a + j : Nat) : Int) + 1) = ((a + (j + 1) : Nat) : Int) := by rw [wr_id (by omega) (by omega)]; omega
    have i0 : (0 ≤ ((a + j : Nat) : Int)) = True := eq_true (by omega)
    have i1 : (((a + j : Nat) : Int) < 1000) = True := eq_true (by omega)
    have hN := DF_SH hD h
    have g52 : gi N 52 (a + j) = gi M 52 (a + j) := hD.2 _ _ (by decide)
    have g53 : gi N 53 (a + j) = gi M 53 (a + j) := hD.2 _ _ (by decide)
    have sd' : ∀ (i : Nat) (z : Int), DF (fun b => b = 71) M (si N 71 i z) := fun i z => DF_si (P := fun b => b = 71) rfl hD
    obtain ⟨⟨g1, g2⟩, g3, g4⟩ := hg j (by omega) (enM M k)
    have rs : rM M a (j + 1) (enM M k) = stM (enM M k) (gi M 52 (a + j)) (gi M 53 (a + j)) (rM M a j (enM M k)) := rfl
    have hlen := rM_len (N := M) (lo := a) (enM M k) j
    have hi' := ih (j + 1)
    rw [rs] at hi'
    generalize gi M 52 (a + j) = c at *
    generalize gi M 53 (a + j) = v at *
    generalize rM M a j (enM M k) = S at *
    rw [eX12_value_6]
    by_cases q : c < 2
    · have q' : ((2 : Int) ≤ c) = False := eq_false (by omega)
      have j0 : (0 ≤ ((S.length : Nat) : Int)) = True := eq_true (by omega)
      have j1 : (((S.length : Nat) : Int) < 500) = True := eq_true (by omega)
      have w1 : wr (((S.length : Nat) : Int) + 1) = ((S.length + 1 : Nat) : Int) := by rw [wr_id (by omega) (by omega)]; omega
      have fin : ∀ y, y = (if c = 0 then v else enM M k v.toNat) → WP (mc (d + 1)) tX12_value 6 [vr (some 35), a1, vi hi, vi k, vi (S.length + 1 : Nat), vi (a + (j + 1) : Nat), a6, a7] [] (si N 71 S.length y) Q := fun y hy => by
        have S' : stM (enM M k) c v S = y :: S := by unfold stM; rw [if_pos q, hy]
        rw [S'] at hi'
        refine hi' _ _ _ (by omega) n6 (sd' _ _) ⟨gi_same _ _ _ _, stk_eq S (fun i hi => ?_) hst⟩
        rw [gi_ni (by omega)]
      by_cases z : c = 0
      · have := fin v (by rw [if_pos z])
        simp only [↓eX12_value_8, ↓eX12_value_9, ↓eX12_value_12, ↓eX12_value_13, ↓eX12_value_16, ↓eX12_value_18, ↓eX12_value_19, ↓eX12_value_20, ↓eX12_value_23, ↓eX12_value_24, ↓eX12_value_27, ↓eX12_value_29, ↓eX12_value_30, ↓eX12_value_33, ↓eX12_value_35, ↓eX12_value_36, ↓eX12_value_39, ↓eX12_value_40, ↓eX12_value_43, ↓eX12_value_45, ↓eX12_value_46, ↓eX12_value_49, ↓eX12_value_50, ↓eX12_value_51, ↓eX12_value_54, ↓eX12_value_56, ↓eX12_value_57, ↓eX12_value_58, ↓eX12_value_61, ↓eX12_value_62, ↓eX12_value_65, ↓eX12_value_143, ↓eX12_value_146, hk35 hN, hr35_30 hN, hr35_31 hN, hr35_60 hN, hk52 hN, hl52 hN, hk53 hN, hl53 hN, hk71 hN, hl71 hN, e1, e2, i0, i1, g52, g53, q', z, j0, j1, w1, Int.cast_ofNat_Int, kd_si, gr_si, ln_si, gi_same, gi_na, gi_ni, nl_i, nl_r, nl_j, nj_i, nj_l, nj_r, true_and, and_true, and_self, cs_0, cs_1, cs_2, cs_3, cs_4, ↓reduceIte, Nat.reduceLeDiff, Nat.reduceEqDiff, Nat.reduceAdd, Int.reduceLE, Int.reduceLT, Int.reduceEq, Int.reduceAdd, Int.reduceNeg, Int.reduceToNat, Int.toNat_natCast, ne_eq, not_false_eq_true, not_true_eq_false, or_true, true_or, or_false, false_or]
        exact this
      · have c1 : c = 1 := by omega
        have fv := fun (Q : mV → mM → Prop) => y_variable (d := d) (M := N) (Q := Q) (k := k) (v := v) hN (SFM_D hD hs) (g3 c1).1 (g3 c1).2
        rw [enM_eq hD] at fv
        have := fin (enM M k v.toNat) (by rw [if_neg z])
        simp only [↓eX12_value_8, ↓eX12_value_9, ↓eX12_value_12, ↓eX12_value_13, ↓eX12_value_16, ↓eX12_value_18, ↓eX12_value_19, ↓eX12_value_20, ↓eX12_value_23, ↓eX12_value_24, ↓eX12_value_27, ↓eX12_value_29, ↓eX12_value_30, ↓eX12_value_33, ↓eX12_value_35, ↓eX12_value_36, ↓eX12_value_39, ↓eX12_value_40, ↓eX12_value_43, ↓eX12_value_45, ↓eX12_value_46, ↓eX12_value_49, ↓eX12_value_50, ↓eX12_value_51, ↓eX12_value_54, ↓eX12_value_56, ↓eX12_value_57, ↓eX12_value_58, ↓eX12_value_61, ↓eX12_value_62, ↓eX12_value_65, ↓eX12_value_143, ↓eX12_value_146, hk35 hN, hr35_30 hN, hr35_31 hN, hr35_60 hN, hk52 hN, hl52 hN, hk53 hN, hl53 hN, hk71 hN, hl71 hN, e1, e2, i0, i1, g52, g53, q', z, j0, j1, w1, ↓fv, Int.cast_ofNat_Int, kd_si, gr_si, ln_si, gi_same, gi_na, gi_ni, nl_i, nl_r, nl_j, nj_i, nj_l, nj_r, true_and, and_true, and_self, cs_0, cs_1, cs_2, cs_3, cs_4, ↓reduceIte, Nat.reduceLeDiff, Nat.reduceEqDiff, Nat.reduceAdd, Int.reduceLE, Int.reduceLT, Int.reduceEq, Int.reduceAdd, Int.reduceNeg, Int.reduceToNat, Int.toNat_natCast, ne_eq, not_false_eq_true, not_true_eq_false, or_true, true_or, or_false, false_or]
        exact this
    · have q' : ((2 : Int) ≤ c) = True := eq_true (by omega)
      have q2 := g4 (by omega)
      match S, q2 with
      | y :: x' :: t, _ =>
        obtain ⟨s1, s2, s3⟩ := hst
        rw [List.length_cons] at s1
        rw [List.length_cons, List.length_cons] at hlen
        have len : ((y :: x' :: t).length : Nat) = t.length + 2 := rfl
        have w1' : wr (((t.length + 2 : Nat) : Int) + (-1)) = ((t.length + 1 : Nat) : Int) := by rw [wr_id (by omega) (by omega)]; omega
        have w2' : wr (((t.length + 1 : Nat) : Int) - 1) = ((t.length : Nat) : Int) := by rw [wr_id (by omega) (by omega)]; omega
        have j0 : (0 ≤ ((t.length : Nat) : Int)) = True := eq_true (by omega)
        have j1 : (((t.length : Nat) : Int) < 500) = True := eq_true (by omega)
        have j2 : (0 ≤ ((t.length + 1 : Nat) : Int)) = True := eq_true (by omega)
        have j3 : (((t.length + 1 : Nat) : Int) < 500) = True := eq_true (by omega)
        have fin : ∀ z, z = (if c = 2 then wr (x' + y) else if c = 3 then wr (x' - y) else wr (x' * y)) → WP (mc (d + 1)) tX12_value 6 [vr (some 35), a1, vi hi, vi k, vi (t.length + 1 : Nat), vi (a + (j + 1) : Nat), vi x', vi y] [] (si N 71 t.length z) Q := fun z hz => by
          have S' : stM (enM M k) c v (y :: x' :: t) = z :: t := by unfold stM; rw [if_neg q, apM, hz]
          rw [S'] at hi'
          refine hi' _ _ _ (by omega) (nlI _) (sd' _ _) ⟨gi_same _ _ _ _, stk_eq t (fun i hi => ?_) s3⟩
          rw [gi_ni (by omega)]
        rw [len]
        by_cases z2 : c = 2
        · have := fin (wr (x' + y)) (by rw [if_pos z2])
          simp only [↓eX12_value_8, ↓eX12_value_9, ↓eX12_value_12, ↓eX12_value_13, ↓eX12_value_16, ↓eX12_value_18, ↓eX12_value_19, ↓eX12_value_20, ↓eX12_value_68, ↓eX12_value_71, ↓eX12_value_72, ↓eX12_value_75, ↓eX12_value_77, ↓eX12_value_78, ↓eX12_value_79, ↓eX12_value_80, ↓eX12_value_82, ↓eX12_value_83, ↓eX12_value_86, ↓eX12_value_88, ↓eX12_value_89, ↓eX12_value_91, ↓eX12_value_92, ↓eX12_value_95, ↓eX12_value_97, ↓eX12_value_98, ↓eX12_value_99, ↓eX12_value_100, ↓eX12_value_103, ↓eX12_value_105, ↓eX12_value_106, ↓eX12_value_107, ↓eX12_value_110, ↓eX12_value_112, ↓eX12_value_114, ↓eX12_value_115, ↓eX12_value_118, ↓eX12_value_119, ↓eX12_value_122, ↓eX12_value_124, ↓eX12_value_125, ↓eX12_value_126, ↓eX12_value_129, ↓eX12_value_131, ↓eX12_value_133, ↓eX12_value_134, ↓eX12_value_137, ↓eX12_value_139, ↓eX12_value_141, ↓eX12_value_142, ↓eX12_value_143, ↓eX12_value_146, hk35 hN, hr35_30 hN, hr35_31 hN, hr35_60 hN, hk52 hN, hl52 hN, hk53 hN, hl53 hN, hk71 hN, hl71 hN, e1, e2, i0, i1, g52, g53, q', z2, j0, j1, j2, j3, w1', w2', s1, s2, Int.cast_ofNat_Int, kd_si, gr_si, ln_si, gi_same, gi_na, gi_ni, nl_i, nl_r, nl_j, nj_i, nj_l, nj_r, true_and, and_true, and_self, cs_0, cs_1, cs_2, cs_3, cs_4, ↓reduceIte, Nat.reduceLeDiff, Nat.reduceEqDiff, Nat.reduceAdd, Int.reduceLE, Int.reduceLT, Int.reduceEq, Int.reduceAdd, Int.reduceNeg, Int.reduceToNat, Int.toNat_natCast, ne_eq, not_false_eq_true, not_true_eq_false, or_true, true_or, or_false, false_or]
          exact this
        · by_cases z3 : c = 3
          · have := fin (wr (x' - y)) (by rw [if_neg z2, if_pos z3])
            simp only [↓eX12_value_8, ↓eX12_value_9, ↓eX12_value_12, ↓eX12_value_13, ↓eX12_value_16, ↓eX12_value_18, ↓eX12_value_19, ↓eX12_value_20, ↓eX12_value_68, ↓eX12_value_71, ↓eX12_value_72, ↓eX12_value_75, ↓eX12_value_77, ↓eX12_value_78, ↓eX12_value_79, ↓eX12_value_80, ↓eX12_value_82, ↓eX12_value_83, ↓eX12_value_86, ↓eX12_value_88, ↓eX12_value_89, ↓eX12_value_91, ↓eX12_value_92, ↓eX12_value_95, ↓eX12_value_97, ↓eX12_value_98, ↓eX12_value_99, ↓eX12_value_100, ↓eX12_value_103, ↓eX12_value_105, ↓eX12_value_106, ↓eX12_value_107, ↓eX12_value_110, ↓eX12_value_112, ↓eX12_value_114, ↓eX12_value_115, ↓eX12_value_118, ↓eX12_value_119, ↓eX12_value_122, ↓eX12_value_124, ↓eX12_value_125, ↓eX12_value_126, ↓eX12_value_129, ↓eX12_value_131, ↓eX12_value_133, ↓eX12_value_134, ↓eX12_value_137, ↓eX12_value_139, ↓eX12_value_141, ↓eX12_value_142, ↓eX12_value_143, ↓eX12_value_146, hk35 hN, hr35_30 hN, hr35_31 hN, hr35_60 hN, hk52 hN, hl52 hN, hk53 hN, hl53 hN, hk71 hN, hl71 hN, e1, e2, i0, i1, g52, g53, q', z3, j0, j1, j2, j3, w1', w2', s1, s2, Int.cast_ofNat_Int, kd_si, gr_si, ln_si, gi_same, gi_na, gi_ni, nl_i, nl_r, nl_j, nj_i, nj_l, nj_r, true_and, and_true, and_self, cs_0, cs_1, cs_2, cs_3, cs_4, ↓reduceIte, Nat.reduceLeDiff, Nat.reduceEqDiff, Nat.reduceAdd, Int.reduceLE, Int.reduceLT, Int.reduceEq, Int.reduceAdd, Int.reduceNeg, Int.reduceToNat, Int.toNat_natCast, ne_eq, not_false_eq_true, not_true_eq_false, or_true, true_or, or_false, false_or]
            exact this
          · have := fin (wr (x' * y)) (by rw [if_neg z2, if_neg z3])
            simp only [↓eX12_value_8, ↓eX12_value_9, ↓eX12_value_12, ↓eX12_value_13, ↓eX12_value_16, ↓eX12_value_18, ↓eX12_value_19, ↓eX12_value_20, ↓eX12_value_68, ↓eX12_value_71, ↓eX12_value_72, ↓eX12_value_75, ↓eX12_value_77, ↓eX12_value_78, ↓eX12_value_79, ↓eX12_value_80, ↓eX12_value_82, ↓eX12_value_83, ↓eX12_value_86, ↓eX12_value_88, ↓eX12_value_89, ↓eX12_value_91, ↓eX12_value_92, ↓eX12_value_95, ↓eX12_value_97, ↓eX12_value_98, ↓eX12_value_99, ↓eX12_value_100, ↓eX12_value_103, ↓eX12_value_105, ↓eX12_value_106, ↓eX12_value_107, ↓eX12_value_110, ↓eX12_value_112, ↓eX12_value_114, ↓eX12_value_115, ↓eX12_value_118, ↓eX12_value_119, ↓eX12_value_122, ↓eX12_value_124, ↓eX12_value_125, ↓eX12_value_126, ↓eX12_value_129, ↓eX12_value_131, ↓eX12_value_133, ↓eX12_value_134, ↓eX12_value_137, ↓eX12_value_139, ↓eX12_value_141, ↓eX12_value_142, ↓eX12_value_143, ↓eX12_value_146, hk35 hN, hr35_30 hN, hr35_31 hN, hr35_60 hN, hk52 hN, hl52 hN, hk53 hN, hl53 hN, hk71 hN, hl71 hN, e1, e2, i0, i1, g52, g53, q', z2, z3, j0, j1, j2, j3, w1', w2', s1, s2, Int.cast_ofNat_Int, kd_si, gr_si, ln_si, gi_same, gi_na, gi_ni, nl_i, nl_r, nl_j, nj_i, nj_l, nj_r, true_and, and_true, and_self, cs_0, cs_1, cs_2, cs_3, cs_4, ↓reduceIte, Nat.reduceLeDiff, Nat.reduceEqDiff, Nat.reduceAdd, Int.reduceLE, Int.reduceLT, Int.reduceEq, Int.reduceAdd, Int.reduceNeg, Int.reduceToNat, Int.toNat_natCast, ne_eq, not_false_eq_true, not_true_eq_false, or_true, true_or, or_false, false_or]
            exact this
theorem y_value {d : Nat} {M : mM} {Q : mV → mM → Prop} {a hi k : Nat} (h : SH M) (hs : SFM M k) (hle : a ≤ hi) (h1 : hi ≤ 1000) (h4 : hi - a ≤ 402) (hg : gM M a (hi - a)) (hl : (rM M a (hi - a) (enM M k)).length = 1)
    (hQ : ∀ N, DF (fun b => b = 71) M N → Q (vi ((rM M a (hi - a) (enM M k)).headD 0)) N) : CP (mc (d + 2)) 163 [vr (some 35), vi a, vi hi, vi k] M Q := by
  have lp := y_val_loop (d := d) h hs hle h1 h4 hg (hd_1 hl) (vi a) hQ (hi - a) 0 M vj vj (by omega) nlJ DF_refl trivial
  have lp' : WP (mc (d + 1)) tX12_value 6 [vr (some 35), vi a, vi hi, vi k, vi 0, vi a, vj, vj] [] M Q := lp
  simp only [↓cpX12_value, ↓eX12_value_0, ↓eX12_value_1, ↓eX12_value_3, ↓eX12_value_4, Int.cast_ofNat_Int, kd_si, gr_si, ln_si, gi_same, gi_na, gi_ni, nl_i, nl_r, nl_j, nj_i, nj_l, nj_r, true_and, and_true, and_self, cs_0, cs_1, cs_2, cs_3, cs_4, ↓reduceIte, Nat.reduceLeDiff, Nat.reduceEqDiff, Nat.reduceAdd, Int.reduceLE, Int.reduceLT, Int.reduceEq, Int.reduceAdd, Int.reduceNeg, Int.reduceToNat, Int.toNat_natCast, ne_eq, not_false_eq_true, not_true_eq_false, or_true, true_or, or_false, false_or]
  exact lp'
/-! which showings are one -/
theorem y_areOne {d : Nat} {M : mM} {Q : mV → mM → Prop} {i k : Nat} (h : SH M) (hs : SFM M k) (hi : i ≤ k) : CP (mc (d + 1)) 159 [vr (some 35), vi i, vi k] M Q = if aro M (gi M 67) i k then Q (vi 1) M else Q (vi 0) M := by
  obtain ⟨hk, hs⟩ := hs
  obtain ⟨f, hf, f3, -⟩ := hs k (Nat.le_refl k)
  obtain ⟨g, hg, g3, -⟩ := hs i hi
  have k0 : (0 ≤ (k : Int)) = True := eq_true (by omega)
  have k1 : ((k : Int) < 1728) = True := eq_true (by omega)
  have i0 : (0 ≤ (i : Int)) = True := eq_true (by omega)
  have i1 : ((i : Int) < 1728) = True := eq_true (by omega)
  have f0 : (0 ≤ (f : Int)) = True := eq_true (by omega)
  have f1 : ((f : Int) < 300) = True := eq_true (by omega)
  have g0 : (0 ≤ (g : Int)) = True := eq_true (by omega)
  have g1 : ((g : Int) < 300) = True := eq_true (by omega)
  unfold aro
  rw [hf, hg]
  simp only [↓cpX12_areOne, ↓eX12_areOne_0, ↓eX12_areOne_1, ↓eX12_areOne_4, ↓eX12_areOne_5, ↓eX12_areOne_8, ↓eX12_areOne_9, ↓eX12_areOne_10, ↓eX12_areOne_11, ↓eX12_areOne_12, ↓eX12_areOne_15, ↓eX12_areOne_16, ↓eX12_areOne_19, ↓eX12_areOne_20, ↓eX12_areOne_21, ↓eX12_areOne_22, ↓eX12_areOne_25, ↓eX12_areOne_26, ↓eX12_areOne_29, ↓eX12_areOne_30, ↓eX12_areOne_33, ↓eX12_areOne_34, ↓eX12_areOne_35, ↓eX12_areOne_36, ↓eX12_areOne_37, ↓eX12_areOne_40, ↓eX12_areOne_41, ↓eX12_areOne_44, ↓eX12_areOne_45, ↓eX12_areOne_46, ↓eX12_areOne_47, ↓eX12_areOne_50, ↓eX12_areOne_51, ↓eX12_areOne_54, ↓eX12_areOne_55, ↓eX12_areOne_58, ↓eX12_areOne_59, ↓eX12_areOne_60, ↓eX12_areOne_61, ↓eX12_areOne_64, ↓eX12_areOne_65, ↓eX12_areOne_68, ↓eX12_areOne_69, hk35 h, hr35_56 h, hk67 h, hl67 h, hr35_43 h, hk61 h, hl61 h, hr35_44 h, hk62 h, hl62 h, hf, hg, k0, k1, i0, i1, f0, f1, g0, g1, Int.cast_ofNat_Int, kd_si, gr_si, ln_si, gi_same, gi_na, gi_ni, nl_i, nl_r, nl_j, nj_i, nj_l, nj_r, true_and, and_true, and_self, cs_0, cs_1, cs_2, cs_3, cs_4, ↓reduceIte, Nat.reduceLeDiff, Nat.reduceEqDiff, Nat.reduceAdd, Int.reduceLE, Int.reduceLT, Int.reduceEq, Int.reduceAdd, Int.reduceNeg, Int.reduceToNat, Int.toNat_natCast, ne_eq, not_false_eq_true, not_true_eq_false, or_true, true_or, or_false, false_or]
  by_cases z1 : gi M 61 g = gi M 61 f
  · rw [if_pos z1]
    by_cases z2 : gi M 62 g = gi M 62 f
    · rw [if_pos z2]
      by_cases z3 : gi M 62 g = 0
      · rw [if_pos z3, if_neg (fun w => w.2.2 z3)]
      · rw [if_neg z3, if_pos ⟨z1, z2, z3⟩]
    · rw [if_neg z2, if_neg (fun w => z2 w.2.1)]
  · rw [if_neg z1, if_neg (fun w => z1 w.1)]
theorem y_lo_loop {d : Nat} {M : mM} {Q : mV → mM → Prop} {k : Nat} (h : SH M) (hs : SFM M k) : ∀ r j : Nat, j + r = k → WP (mc (d + 1)) tX12_leastOne 2 [vr (some 35), vi k, vi j] [] M Q = Q (vi (lof M (gi M 67) k r j : Nat)) M := by
  have hk := hs.1
  intro r
  induction r with
  | zero =>
    intro j hj
    have e : j = k := by omega
    subst e
    rw [eX12_leastOne_2]
    simp only [↓eX12_leastOne_3, ↓eX12_leastOne_4, ↓eX12_leastOne_24, ↓eX12_leastOne_25, Int.le_refl, Int.cast_ofNat_Int, kd_si, gr_si, ln_si, gi_same, gi_na, gi_ni, nl_i, nl_r, nl_j, nj_i, nj_l, nj_r, true_and, and_true, and_self, cs_0, cs_1, cs_2, cs_3, cs_4, ↓reduceIte, Nat.reduceLeDiff, Nat.reduceEqDiff, Nat.reduceAdd, Int.reduceLE, Int.reduceLT, Int.reduceEq, Int.reduceAdd, Int.reduceNeg, Int.reduceToNat, Int.toNat_natCast, ne_eq, not_false_eq_true, not_true_eq_false, or_true, true_or, or_false, false_or]
    rfl
  | succ r ih =>
    intro j hj
    have e1 : ((k : Int) ≤ (j : Int)) = False := eq_false (by omega)
    have e2 : wr ((j : Int) + 1) = ((j + 1 : Nat) : Int) := by rw [wr_id (by omega) (by omega)]; omega
    have fa := fun (Q : mV → mM → Prop) => y_areOne (d := d) (M := M) (Q := Q) (i := j) (k := k) h hs (by omega)
    rw [lof, eX12_leastOne_2]
    by_cases z : aro M (gi M 67) j k
    · simp only [if_pos z] at fa ⊢
      simp only [↓eX12_leastOne_3, ↓eX12_leastOne_4, ↓eX12_leastOne_7, ↓eX12_leastOne_8, ↓eX12_leastOne_9, ↓eX12_leastOne_10, ↓eX12_leastOne_13, ↓eX12_leastOne_16, ↓eX12_leastOne_17, ↓eX12_leastOne_18, ↓eX12_leastOne_21, hk35 h, e1, ↓fa, Int.cast_ofNat_Int, kd_si, gr_si, ln_si, gi_same, gi_na, gi_ni, nl_i, nl_r, nl_j, nj_i, nj_l, nj_r, true_and, and_true, and_self, cs_0, cs_1, cs_2, cs_3, cs_4, ↓reduceIte, Nat.reduceLeDiff, Nat.reduceEqDiff, Nat.reduceAdd, Int.reduceLE, Int.reduceLT, Int.reduceEq, Int.reduceAdd, Int.reduceNeg, Int.reduceToNat, Int.toNat_natCast, ne_eq, not_false_eq_true, not_true_eq_false, or_true, true_or, or_false, false_or]
    · simp only [if_neg z] at fa ⊢
      simp only [↓eX12_leastOne_3, ↓eX12_leastOne_4, ↓eX12_leastOne_7, ↓eX12_leastOne_8, ↓eX12_leastOne_9, ↓eX12_leastOne_10, ↓eX12_leastOne_13, ↓eX12_leastOne_16, ↓eX12_leastOne_17, ↓eX12_leastOne_18, ↓eX12_leastOne_21, hk35 h, e1, e2, ↓fa, Int.cast_ofNat_Int, kd_si, gr_si, ln_si, gi_same, gi_na, gi_ni, nl_i, nl_r, nl_j, nj_i, nj_l, nj_r, true_and, and_true, and_self, cs_0, cs_1, cs_2, cs_3, cs_4, ↓reduceIte, Nat.reduceLeDiff, Nat.reduceEqDiff, Nat.reduceAdd, Int.reduceLE, Int.reduceLT, Int.reduceEq, Int.reduceAdd, Int.reduceNeg, Int.reduceToNat, Int.toNat_natCast, ne_eq, not_false_eq_true, not_true_eq_false, or_true, true_or, or_false, false_or]
      exact ih (j + 1) (by omega)
theorem y_leastOne {d : Nat} {M : mM} {Q : mV → mM → Prop} {k : Nat} (h : SH M) (hs : SFM M k) : CP (mc (d + 2)) 164 [vr (some 35), vi k] M Q = Q (vi (lo M (gi M 67) k : Nat)) M := by
  have lp := y_lo_loop (d := d) (Q := Q) h hs k 0 (by omega)
  have lp' : WP (mc (d + 1)) tX12_leastOne 2 [vr (some 35), vi k, vi 0] [] M Q = _ := lp
  simp only [↓cpX12_leastOne, ↓eX12_leastOne_0, ↓eX12_leastOne_1, Int.cast_ofNat_Int, kd_si, gr_si, ln_si, gi_same, gi_na, gi_ni, nl_i, nl_r, nl_j, nj_i, nj_l, nj_r, true_and, and_true, and_self, cs_0, cs_1, cs_2, cs_3, cs_4, ↓reduceIte, Nat.reduceLeDiff, Nat.reduceEqDiff, Nat.reduceAdd, Int.reduceLE, Int.reduceLT, Int.reduceEq, Int.reduceAdd, Int.reduceNeg, Int.reduceToNat, Int.toNat_natCast, ne_eq, not_false_eq_true, not_true_eq_false, or_true, true_or, or_false, false_or]
  rw [lp']
  rfl
