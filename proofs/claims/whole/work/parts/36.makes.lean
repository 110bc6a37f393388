/-! ===== the reference makes a day ===== -/
/-- ints change at S alone -/
def YF (S : Nat → Nat → Prop) (M N : mM) : Prop := N.2 = M.2 ∧ ∀ a i, ¬ S a i → gi N a i = gi M a i
theorem YF_refl {S : Nat → Nat → Prop} {M : mM} : YF S M M := ⟨rfl, fun _ _ _ => rfl⟩
theorem YF_trans {S : Nat → Nat → Prop} {M N O : mM} (h : YF S M N) (k : YF S N O) : YF S M O := ⟨k.1.trans h.1, fun a i ha => (k.2 a i ha).trans (h.2 a i ha)⟩
theorem YF_mono {S S' : Nat → Nat → Prop} {M N : mM} (hp : ∀ a i, S a i → S' a i) (h : YF S M N) : YF S' M N := ⟨h.1, fun a i ha => h.2 a i (fun w => ha (hp a i w))⟩
theorem YF_si {S : Nat → Nat → Prop} {M N : mM} {a i : Nat} {z : Int} (ha : S a i) (h : YF S M N) : YF S M (si N a i z) := ⟨h.1, fun b j hb => by
  rw [gi_si, if_neg]
  · exact h.2 b j hb
  · rintro ⟨rfl, rfl⟩; exact hb ha⟩
theorem YF_DF {P : Nat → Prop} {M N : mM} (h : DF P M N) : YF (fun a _ => P a) M N := h
theorem YF_DFk {S : Nat → Nat → Prop} {M N : mM} (h : YF S M N) : DF (fun _ => True) M N := ⟨h.1, fun _ _ w => absurd trivial w⟩
theorem YF_SH {S : Nat → Nat → Prop} {M N : mM} (h : YF S M N) (s : SH M) : SH N := DF_SH (YF_DFk h) s
theorem YF_r {S : Nat → Nat → Prop} {M N : mM} (h : YF S M N) (a i : Nat) : gr N a i = gr M a i := DF_r (YF_DFk h) a i
theorem YF_k {S : Nat → Nat → Prop} {M N : mM} (h : YF S M N) (a : Nat) : kd N a = kd M a := DF_k (YF_DFk h) a
theorem YF_l {S : Nat → Nat → Prop} {M N : mM} (h : YF S M N) (a : Nat) : ln N a = ln M a := DF_l (YF_DFk h) a
theorem YF_n {S : Nat → Nat → Prop} {M N : mM} (h : YF S M N) : nx N = nx M := DF_n (YF_DFk h)
theorem YF_FRM {S : Nat → Nat → Prop} {M N : mM} (h : YF S M N) : FRM S (fun _ => False) M N := ⟨fun a i _ hn => h.2 a i hn, fun a i _ _ => YF_r h a i, fun a _ => ⟨YF_k h a, YF_l h a⟩, by rw [YF_n h]; exact Nat.le_refl _, by rw [YF_n h, DF_z (YF_DFk h)]; exact Nat.le_refl _⟩
/-- a stretch of an array is written -/
def rwM (N : mM) (a lo t : Nat) (f : Nat → Int) : mM := sw N a (fun j => if lo ≤ j ∧ j < lo + t then f (j - lo) else gi N a j)
theorem rwM_0 {N : mM} {a lo : Nat} {f : Nat → Int} : rwM N a lo 0 f = N := by
  unfold rwM
  have e : (fun j => if lo ≤ j ∧ j < lo + 0 then f (j - lo) else gi N a j) = fun j => gi N a j := by
    funext j
    rw [if_neg (by omega)]
  rw [e, sw_id]
theorem rwM_si {N : mM} {a lo t : Nat} {f : Nat → Int} {v : Int} (hv : f t = v) : si (rwM N a lo t f) a (lo + t) v = rwM N a lo (t + 1) f := by
  unfold rwM
  rw [si_sw, sw_sw]
  refine sw_eq (fun j => ?_)
  by_cases q : j = lo + t
  · rw [if_pos q, if_pos (by omega), q, Nat.add_sub_cancel_left, hv]
  · rw [if_neg q, gi_sw, if_pos rfl]
    by_cases q2 : lo ≤ j ∧ j < lo + t
    · rw [if_pos q2, if_pos (by omega)]
    · rw [if_neg q2, if_neg (by omega)]
theorem rwM_no {N : mM} {a lo t : Nat} {f : Nat → Int} (hv : f t = gi N a (lo + t)) : rwM N a lo t f = rwM N a lo (t + 1) f := by
  unfold rwM
  refine sw_eq (fun j => ?_)
  by_cases q : j = lo + t
  · rw [if_neg (by omega), if_pos (by omega), q, Nat.add_sub_cancel_left, hv]
  · by_cases q2 : lo ≤ j ∧ j < lo + t
    · rw [if_pos q2, if_pos (by omega)]
    · rw [if_neg q2, if_neg (by omega)]
theorem gi_rwn {N : mM} {a lo t : Nat} {f : Nat → Int} {b j : Nat} (h : b ≠ a) : gi (rwM N a lo t f) b j = gi N b j := gi_swn h
theorem gi_rwo {N : mM} {a lo t : Nat} {f : Nat → Int} {j : Nat} (h : j < lo ∨ lo + t ≤ j) : gi (rwM N a lo t f) a j = gi N a j := by
  unfold rwM
  rw [gi_sw, if_pos rfl, if_neg (by omega)]
theorem gi_rwi {N : mM} {a lo t : Nat} {f : Nat → Int} {j : Nat} (h : j < t) : gi (rwM N a lo t f) a (lo + j) = f j := by
  unfold rwM
  rw [gi_sw, if_pos rfl, if_pos (by omega), Nat.add_sub_cancel_left]
theorem rwM_DF {P : Nat → Prop} {M N : mM} {a lo t : Nat} {f : Nat → Int} (ha : P a) (h : DF P M N) : DF P M (rwM N a lo t f) := DF_sw ha h
theorem w288 {c : Nat} (hc : c < 6) : wr (288 * (c : Int)) = ((288 * c : Nat) : Int) := by rw [wr_id (by omega) (by omega)]; omega
theorem w289 {c t : Nat} (hc : c < 6) (ht : t < 288) : wr (((288 * c : Nat) : Int) + (t : Int)) = ((288 * c + t : Nat) : Int) := by rw [wr_id (by omega) (by omega)]; omega
theorem y_mk_A {C : mC} {Q : mV → mM → Prop} {n : Int} {c : Nat} {a4 a5 : mV} {N : mM} (h : SH N) (hc : c < 6) : ∀ r t : Nat, t + r = 288 → WP C tX12_makes 26 [vr (some 35), vi n, vi c, vi t, a4, a5] [] (rwM N 65 (288 * c) t (fun _ => -1)) Q = WP C tX12_makes 52 [vr (some 35), vi n, vi c, vi 288, a4, a5] [] (rwM N 65 (288 * c) 288 (fun _ => -1)) Q := by
  intro r
  induction r with
  | zero =>
    intro t hi
    have e : t = 288 := by omega
    subst e
    rw [eX12_makes_26]
    simp only [↓eX12_makes_27, ↓eX12_makes_30, Int.le_refl, Int.cast_ofNat_Int, kd_si, gr_si, ln_si, gi_same, gi_na, gi_ni, nl_i, nl_r, nl_j, nj_i, nj_l, nj_r, true_and, and_true, and_self, cs_0, cs_1, cs_2, cs_3, cs_4, ↓reduceIte, Nat.reduceLeDiff, Nat.reduceEqDiff, Nat.reduceAdd, Int.reduceLE, Int.reduceLT, Int.reduceEq, Int.reduceAdd, Int.reduceNeg, Int.reduceToNat, Int.toNat_natCast, ne_eq, not_false_eq_true, not_true_eq_false, or_true, true_or, or_false, false_or]
  | succ r ih =>
    intro t hi
    have hR : SH (rwM N 65 (288 * c) t (fun _ => -1)) := h
    have e : ((288 : Int) ≤ (t : Int)) = False := eq_false (by omega)
    have e2 : wr ((t : Int) + 1) = ((t + 1 : Nat) : Int) := by rw [wr_id (by omega) (by omega)]; omega
    have i0 : (0 ≤ ((288 * c + t : Nat) : Int)) = True := eq_true (by omega)
    have i1 : (((288 * c + t : Nat) : Int) < 1728) = True := eq_true (by omega)
    rw [eX12_makes_26]
    simp only [↓eX12_makes_27, ↓eX12_makes_30, ↓eX12_makes_33, ↓eX12_makes_34, ↓eX12_makes_37, ↓eX12_makes_40, ↓eX12_makes_41, ↓eX12_makes_42, ↓eX12_makes_43, ↓eX12_makes_44, ↓eX12_makes_45, ↓eX12_makes_46, ↓eX12_makes_49, e, e2, w288 hc, w289 hc (show t < 288 by omega), i0, i1, hk35 hR, hr35_53 hR, hk65 hR, hl65 hR, Int.cast_ofNat_Int, kd_si, gr_si, ln_si, gi_same, gi_na, gi_ni, nl_i, nl_r, nl_j, nj_i, nj_l, nj_r, true_and, and_true, and_self, cs_0, cs_1, cs_2, cs_3, cs_4, ↓reduceIte, Nat.reduceLeDiff, Nat.reduceEqDiff, Nat.reduceAdd, Int.reduceLE, Int.reduceLT, Int.reduceEq, Int.reduceAdd, Int.reduceNeg, Int.reduceToNat, Int.toNat_natCast, ne_eq, not_false_eq_true, not_true_eq_false, or_true, true_or, or_false, false_or]
    rw [rwM_si (f := fun _ => -1) rfl]
    exact ih (t + 1) (by omega)
/-- one source's word is laid over the row -/
def lay1 (N : mM) (c s t : Nat) : Int := if gi N 64 t ≠ -1 ∧ (gi N 65 (288 * c + t) = -1 ∨ gi N 55 (gi N 57 (gi N 65 (288 * c + t)).toNat).toNat < gi N 55 s) then gi N 64 t else gi N 65 (288 * c + t)
theorem y_mk_B {C : mC} {Q : mV → mM → Prop} {n : Int} {c s : Nat} {N : mM} (h : SH N) (hc : c < 6) (hs : s < 6) (hb : ∀ t, t < 288 → gi N 65 (288 * c + t) = -1 ∨ ∃ k : Nat, gi N 65 (288 * c + t) = k ∧ k < 300 ∧ 0 ≤ gi N 57 k ∧ gi N 57 k < 6) (hQ : ∀ a5, WP C tX12_makes 159 [vr (some 35), vi n, vi c, vi s, vi 288, a5] [] (rwM N 65 (288 * c) 288 (lay1 N c s)) Q) :
    ∀ (r t : Nat) (a5 : mV), t + r = 288 → WP C tX12_makes 72 [vr (some 35), vi n, vi c, vi s, vi t, a5] [] (rwM N 65 (288 * c) t (lay1 N c s)) Q := by
  intro r
  induction r with
  | zero =>
    intro t a5 hi
    have e : t = 288 := by omega
    subst e
    rw [eX12_makes_72]
    simp only [↓eX12_makes_74, ↓eX12_makes_77, Int.le_refl, Int.cast_ofNat_Int, kd_si, gr_si, ln_si, gi_same, gi_na, gi_ni, nl_i, nl_r, nl_j, nj_i, nj_l, nj_r, true_and, and_true, and_self, cs_0, cs_1, cs_2, cs_3, cs_4, ↓reduceIte, Nat.reduceLeDiff, Nat.reduceEqDiff, Nat.reduceAdd, Int.reduceLE, Int.reduceLT, Int.reduceEq, Int.reduceAdd, Int.reduceNeg, Int.reduceToNat, Int.toNat_natCast, ne_eq, not_false_eq_true, not_true_eq_false, or_true, true_or, or_false, false_or]
    exact hQ a5
  | succ r ih =>
    intro t a5 hi
    have hR : SH (rwM N 65 (288 * c) t (lay1 N c s)) := h
    have e : ((288 : Int) ≤ (t : Int)) = False := eq_false (by omega)
    have e2 : wr ((t : Int) + 1) = ((t + 1 : Nat) : Int) := by rw [wr_id (by omega) (by omega)]; omega
    have i0 : (0 ≤ ((288 * c + t : Nat) : Int)) = True := eq_true (by omega)
    have i1 : (((288 * c + t : Nat) : Int) < 1728) = True := eq_true (by omega)
    have t0 : (0 ≤ (t : Int)) = True := eq_true (by omega)
    have t1 : ((t : Int) < 288) = True := eq_true (by omega)
    have s0 : (0 ≤ (s : Int)) = True := eq_true (by omega)
    have s1 : ((s : Int) < 6) = True := eq_true (by omega)
    have g64 : ∀ i, gi (rwM N 65 (288 * c) t (lay1 N c s)) 64 i = gi N 64 i := fun i => gi_rwn (by decide)
    have g55 : ∀ i, gi (rwM N 65 (288 * c) t (lay1 N c s)) 55 i = gi N 55 i := fun i => gi_rwn (by decide)
    have g57 : ∀ i, gi (rwM N 65 (288 * c) t (lay1 N c s)) 57 i = gi N 57 i := fun i => gi_rwn (by decide)
    have g65 : gi (rwM N 65 (288 * c) t (lay1 N c s)) 65 (288 * c + t) = gi N 65 (288 * c + t) := gi_rwo (by omega)
    rw [eX12_makes_72]
    by_cases q1 : gi N 64 t = -1
    · have f : lay1 N c s t = gi N 65 (288 * c + t) := by unfold lay1; rw [if_neg (fun w => w.1 q1)]
      simp only [↓eX12_makes_74, ↓eX12_makes_77, ↓eX12_makes_80, ↓eX12_makes_81, ↓eX12_makes_84, ↓eX12_makes_87, ↓eX12_makes_88, ↓eX12_makes_89, ↓eX12_makes_91, ↓eX12_makes_92, ↓eX12_makes_93, ↓eX12_makes_95, ↓eX12_makes_96, ↓eX12_makes_99, ↓eX12_makes_101, ↓eX12_makes_102, ↓eX12_makes_103, ↓eX12_makes_106, ↓eX12_makes_108, ↓eX12_makes_109, ↓eX12_makes_112, ↓eX12_makes_113, ↓eX12_makes_116, ↓eX12_makes_117, ↓eX12_makes_118, ↓eX12_makes_119, ↓eX12_makes_122, ↓eX12_makes_123, ↓eX12_makes_126, ↓eX12_makes_128, ↓eX12_makes_129, ↓eX12_makes_130, ↓eX12_makes_133, ↓eX12_makes_134, ↓eX12_makes_137, ↓eX12_makes_140, ↓eX12_makes_141, ↓eX12_makes_142, ↓eX12_makes_144, ↓eX12_makes_145, ↓eX12_makes_146, ↓eX12_makes_149, ↓eX12_makes_151, ↓eX12_makes_152, ↓eX12_makes_153, ↓eX12_makes_156, e, e2, w288 hc, w289 hc (show t < 288 by omega), i0, i1, t0, t1, g64, g65, q1, hk35 hR, hr35_53 hR, hr35_52 hR, hk65 hR, hl65 hR, hk64 hR, hl64 hR, Int.cast_ofNat_Int, kd_si, gr_si, ln_si, gi_same, gi_na, gi_ni, nl_i, nl_r, nl_j, nj_i, nj_l, nj_r, true_and, and_true, and_self, cs_0, cs_1, cs_2, cs_3, cs_4, ↓reduceIte, Nat.reduceLeDiff, Nat.reduceEqDiff, Nat.reduceAdd, Int.reduceLE, Int.reduceLT, Int.reduceEq, Int.reduceAdd, Int.reduceNeg, Int.reduceToNat, Int.toNat_natCast, ne_eq, not_false_eq_true, not_true_eq_false, or_true, true_or, or_false, false_or]
      rw [rwM_no f]
      exact ih (t + 1) _ (by omega)
    · rcases hb t (by omega) with q2 | ⟨k, q2, q3, q4, q5⟩
      · have f : lay1 N c s t = gi N 64 t := by unfold lay1; rw [if_pos ⟨q1, Or.inl q2⟩]
        simp only [↓eX12_makes_74, ↓eX12_makes_77, ↓eX12_makes_80, ↓eX12_makes_81, ↓eX12_makes_84, ↓eX12_makes_87, ↓eX12_makes_88, ↓eX12_makes_89, ↓eX12_makes_91, ↓eX12_makes_92, ↓eX12_makes_93, ↓eX12_makes_95, ↓eX12_makes_96, ↓eX12_makes_99, ↓eX12_makes_101, ↓eX12_makes_102, ↓eX12_makes_103, ↓eX12_makes_106, ↓eX12_makes_108, ↓eX12_makes_109, ↓eX12_makes_112, ↓eX12_makes_113, ↓eX12_makes_116, ↓eX12_makes_117, ↓eX12_makes_118, ↓eX12_makes_119, ↓eX12_makes_122, ↓eX12_makes_123, ↓eX12_makes_126, ↓eX12_makes_128, ↓eX12_makes_129, ↓eX12_makes_130, ↓eX12_makes_133, ↓eX12_makes_134, ↓eX12_makes_137, ↓eX12_makes_140, ↓eX12_makes_141, ↓eX12_makes_142, ↓eX12_makes_144, ↓eX12_makes_145, ↓eX12_makes_146, ↓eX12_makes_149, ↓eX12_makes_151, ↓eX12_makes_152, ↓eX12_makes_153, ↓eX12_makes_156, e, e2, w288 hc, w289 hc (show t < 288 by omega), i0, i1, t0, t1, g64, g65, q1, q2, hk35 hR, hr35_53 hR, hr35_52 hR, hk65 hR, hl65 hR, hk64 hR, hl64 hR, Int.cast_ofNat_Int, kd_si, gr_si, ln_si, gi_same, gi_na, gi_ni, nl_i, nl_r, nl_j, nj_i, nj_l, nj_r, true_and, and_true, and_self, cs_0, cs_1, cs_2, cs_3, cs_4, ↓reduceIte, Nat.reduceLeDiff, Nat.reduceEqDiff, Nat.reduceAdd, Int.reduceLE, Int.reduceLT, Int.reduceEq, Int.reduceAdd, Int.reduceNeg, Int.reduceToNat, Int.toNat_natCast, ne_eq, not_false_eq_true, not_true_eq_false, or_true, true_or, or_false, false_or]
        rw [rwM_si f]
        exact ih (t + 1) _ (by omega)
      · have k1 : ((k : Int) = -1) = False := eq_false (by omega)
        have k2 : (0 ≤ (k : Int)) = True := eq_true (by omega)
        have k3 : ((k : Int) < 300) = True := eq_true (by omega)
        by_cases q6 : gi N 55 s ≤ gi N 55 (gi N 57 k).toNat
        · have f : lay1 N c s t = gi N 65 (288 * c + t) := by
            unfold lay1
            rw [if_neg]
            rintro ⟨-, w⟩
            rw [q2, Int.toNat_natCast] at w
            omega
          simp only [↓eX12_makes_74, ↓eX12_makes_77, ↓eX12_makes_80, ↓eX12_makes_81, ↓eX12_makes_84, ↓eX12_makes_87, ↓eX12_makes_88, ↓eX12_makes_89, ↓eX12_makes_91, ↓eX12_makes_92, ↓eX12_makes_93, ↓eX12_makes_95, ↓eX12_makes_96, ↓eX12_makes_99, ↓eX12_makes_101, ↓eX12_makes_102, ↓eX12_makes_103, ↓eX12_makes_106, ↓eX12_makes_108, ↓eX12_makes_109, ↓eX12_makes_112, ↓eX12_makes_113, ↓eX12_makes_116, ↓eX12_makes_117, ↓eX12_makes_118, ↓eX12_makes_119, ↓eX12_makes_122, ↓eX12_makes_123, ↓eX12_makes_126, ↓eX12_makes_128, ↓eX12_makes_129, ↓eX12_makes_130, ↓eX12_makes_133, ↓eX12_makes_134, ↓eX12_makes_137, ↓eX12_makes_140, ↓eX12_makes_141, ↓eX12_makes_142, ↓eX12_makes_144, ↓eX12_makes_145, ↓eX12_makes_146, ↓eX12_makes_149, ↓eX12_makes_151, ↓eX12_makes_152, ↓eX12_makes_153, ↓eX12_makes_156, e, e2, w288 hc, w289 hc (show t < 288 by omega), i0, i1, t0, t1, s0, s1, g64, g65, g55, g57, q1, q2, q4, q5, q6, k1, k2, k3, hk35 hR, hr35_53 hR, hr35_52 hR, hr35_36 hR, hr35_39 hR, hk65 hR, hl65 hR, hk64 hR, hl64 hR, hk55 hR, hl55 hR, hk57 hR, hl57 hR, Int.cast_ofNat_Int, kd_si, gr_si, ln_si, gi_same, gi_na, gi_ni, nl_i, nl_r, nl_j, nj_i, nj_l, nj_r, true_and, and_true, and_self, cs_0, cs_1, cs_2, cs_3, cs_4, ↓reduceIte, Nat.reduceLeDiff, Nat.reduceEqDiff, Nat.reduceAdd, Int.reduceLE, Int.reduceLT, Int.reduceEq, Int.reduceAdd, Int.reduceNeg, Int.reduceToNat, Int.toNat_natCast, ne_eq, not_false_eq_true, not_true_eq_false, or_true, true_or, or_false, false_or]
          rw [rwM_no f]
          exact ih (t + 1) _ (by omega)
        · have f : lay1 N c s t = gi N 64 t := by
            unfold lay1
            rw [if_pos]
            refine ⟨q1, Or.inr ?_⟩
            rw [q2, Int.toNat_natCast]
            omega
          simp only [↓eX12_makes_74, ↓eX12_makes_77, ↓eX12_makes_80, ↓eX12_makes_81, ↓eX12_makes_84, ↓eX12_makes_87, ↓eX12_makes_88, ↓eX12_makes_89, ↓eX12_makes_91, ↓eX12_makes_92, ↓eX12_makes_93, ↓eX12_makes_95, ↓eX12_makes_96, ↓eX12_makes_99, ↓eX12_makes_101, ↓eX12_makes_102, ↓eX12_makes_103, ↓eX12_makes_106, ↓eX12_makes_108, ↓eX12_makes_109, ↓eX12_makes_112, ↓eX12_makes_113, ↓eX12_makes_116, ↓eX12_makes_117, ↓eX12_makes_118, ↓eX12_makes_119, ↓eX12_makes_122, ↓eX12_makes_123, ↓eX12_makes_126, ↓eX12_makes_128, ↓eX12_makes_129, ↓eX12_makes_130, ↓eX12_makes_133, ↓eX12_makes_134, ↓eX12_makes_137, ↓eX12_makes_140, ↓eX12_makes_141, ↓eX12_makes_142, ↓eX12_makes_144, ↓eX12_makes_145, ↓eX12_makes_146, ↓eX12_makes_149, ↓eX12_makes_151, ↓eX12_makes_152, ↓eX12_makes_153, ↓eX12_makes_156, e, e2, w288 hc, w289 hc (show t < 288 by omega), i0, i1, t0, t1, s0, s1, g64, g65, g55, g57, q1, q2, q4, q5, q6, k1, k2, k3, hk35 hR, hr35_53 hR, hr35_52 hR, hr35_36 hR, hr35_39 hR, hk65 hR, hl65 hR, hk64 hR, hl64 hR, hk55 hR, hl55 hR, hk57 hR, hl57 hR, Int.cast_ofNat_Int, kd_si, gr_si, ln_si, gi_same, gi_na, gi_ni, nl_i, nl_r, nl_j, nj_i, nj_l, nj_r, true_and, and_true, and_self, cs_0, cs_1, cs_2, cs_3, cs_4, ↓reduceIte, Nat.reduceLeDiff, Nat.reduceEqDiff, Nat.reduceAdd, Int.reduceLE, Int.reduceLT, Int.reduceEq, Int.reduceAdd, Int.reduceNeg, Int.reduceToNat, Int.toNat_natCast, ne_eq, not_false_eq_true, not_true_eq_false, or_true, true_or, or_false, false_or]
          rw [rwM_si f]
          exact ih (t + 1) _ (by omega)
/-- notices of title 0 leave nothing -/
theorem y_mk_C {C : mC} {Q : mV → mM → Prop} {n : Int} {c : Nat} {N : mM} {a4 a5 : mV} (h : SH N) (hc : c < 6) (hb : ∀ t, t < 288 → gi N 65 (288 * c + t) = -1 ∨ ∃ k : Nat, gi N 65 (288 * c + t) = k ∧ k < 300) :
    ∀ (r t : Nat), t + r = 288 → WP C tX12_makes 167 [vr (some 35), vi n, vi c, vi t, a4, a5] [] (rwM N 65 (288 * c) t (fun t => vlo N (gi N 65 (288 * c + t)))) Q = WP C tX12_makes 229 [vr (some 35), vi n, vi c, vi 288, a4, a5] [] (rwM N 65 (288 * c) 288 (fun t => vlo N (gi N 65 (288 * c + t)))) Q := by
  intro r
  induction r with
  | zero =>
    intro t hi
    have e : t = 288 := by omega
    subst e
    rw [eX12_makes_167]
    simp only [↓eX12_makes_168, ↓eX12_makes_171, Int.le_refl, Int.cast_ofNat_Int, kd_si, gr_si, ln_si, gi_same, gi_na, gi_ni, nl_i, nl_r, nl_j, nj_i, nj_l, nj_r, true_and, and_true, and_self, cs_0, cs_1, cs_2, cs_3, cs_4, ↓reduceIte, Nat.reduceLeDiff, Nat.reduceEqDiff, Nat.reduceAdd, Int.reduceLE, Int.reduceLT, Int.reduceEq, Int.reduceAdd, Int.reduceNeg, Int.reduceToNat, Int.toNat_natCast, ne_eq, not_false_eq_true, not_true_eq_false, or_true, true_or, or_false, false_or]
  | succ r ih =>
    intro t hi
    have hR : SH (rwM N 65 (288 * c) t (fun t => vlo N (gi N 65 (288 * c + t)))) := h
    have e : ((288 : Int) ≤ (t : Int)) = False := eq_false (by omega)
    have e2 : wr ((t : Int) + 1) = ((t + 1 : Nat) : Int) := by rw [wr_id (by omega) (by omega)]; omega
    have i0 : (0 ≤ ((288 * c + t : Nat) : Int)) = True := eq_true (by omega)
    have i1 : (((288 * c + t : Nat) : Int) < 1728) = True := eq_true (by omega)
    have g61 : ∀ i, gi (rwM N 65 (288 * c) t (fun t => vlo N (gi N 65 (288 * c + t)))) 61 i = gi N 61 i := fun i => gi_rwn (by decide)
    have g65 : gi (rwM N 65 (288 * c) t (fun t => vlo N (gi N 65 (288 * c + t)))) 65 (288 * c + t) = gi N 65 (288 * c + t) := gi_rwo (by omega)
    rw [eX12_makes_167]
    rcases hb t (by omega) with q2 | ⟨k, q2, q3⟩
    · have f : vlo N (gi N 65 (288 * c + t)) = gi N 65 (288 * c + t) := by unfold vlo; rw [if_neg (fun w => w.1 q2)]
      simp only [↓eX12_makes_168, ↓eX12_makes_171, ↓eX12_makes_174, ↓eX12_makes_175, ↓eX12_makes_178, ↓eX12_makes_181, ↓eX12_makes_182, ↓eX12_makes_183, ↓eX12_makes_184, ↓eX12_makes_185, ↓eX12_makes_186, ↓eX12_makes_187, ↓eX12_makes_190, ↓eX12_makes_191, ↓eX12_makes_194, ↓eX12_makes_195, ↓eX12_makes_198, ↓eX12_makes_201, ↓eX12_makes_202, ↓eX12_makes_203, ↓eX12_makes_204, ↓eX12_makes_205, ↓eX12_makes_206, ↓eX12_makes_207, ↓eX12_makes_210, ↓eX12_makes_211, ↓eX12_makes_214, ↓eX12_makes_217, ↓eX12_makes_218, ↓eX12_makes_219, ↓eX12_makes_220, ↓eX12_makes_221, ↓eX12_makes_222, ↓eX12_makes_223, ↓eX12_makes_226, e, e2, w288 hc, w289 hc (show t < 288 by omega), i0, i1, g65, q2, hk35 hR, hr35_53 hR, hk65 hR, hl65 hR, Int.cast_ofNat_Int, kd_si, gr_si, ln_si, gi_same, gi_na, gi_ni, nl_i, nl_r, nl_j, nj_i, nj_l, nj_r, true_and, and_true, and_self, cs_0, cs_1, cs_2, cs_3, cs_4, ↓reduceIte, Nat.reduceLeDiff, Nat.reduceEqDiff, Nat.reduceAdd, Int.reduceLE, Int.reduceLT, Int.reduceEq, Int.reduceAdd, Int.reduceNeg, Int.reduceToNat, Int.toNat_natCast, ne_eq, not_false_eq_true, not_true_eq_false, or_true, true_or, or_false, false_or]
      rw [rwM_no f]
      exact ih (t + 1) (by omega)
    · have k1 : ((k : Int) = -1) = False := eq_false (by omega)
      have k2 : (0 ≤ (k : Int)) = True := eq_true (by omega)
      have k3 : ((k : Int) < 300) = True := eq_true (by omega)
      by_cases q6 : gi N 61 k = 0
      · have f : vlo N (gi N 65 (288 * c + t)) = -1 := by
          unfold vlo
          rw [if_pos]
          rw [q2, Int.toNat_natCast]
          exact ⟨by omega, q6⟩
        simp only [↓eX12_makes_168, ↓eX12_makes_171, ↓eX12_makes_174, ↓eX12_makes_175, ↓eX12_makes_178, ↓eX12_makes_181, ↓eX12_makes_182, ↓eX12_makes_183, ↓eX12_makes_184, ↓eX12_makes_185, ↓eX12_makes_186, ↓eX12_makes_187, ↓eX12_makes_190, ↓eX12_makes_191, ↓eX12_makes_194, ↓eX12_makes_195, ↓eX12_makes_198, ↓eX12_makes_201, ↓eX12_makes_202, ↓eX12_makes_203, ↓eX12_makes_204, ↓eX12_makes_205, ↓eX12_makes_206, ↓eX12_makes_207, ↓eX12_makes_210, ↓eX12_makes_211, ↓eX12_makes_214, ↓eX12_makes_217, ↓eX12_makes_218, ↓eX12_makes_219, ↓eX12_makes_220, ↓eX12_makes_221, ↓eX12_makes_222, ↓eX12_makes_223, ↓eX12_makes_226, e, e2, w288 hc, w289 hc (show t < 288 by omega), i0, i1, g65, g61, q2, q6, k1, k2, k3, hk35 hR, hr35_53 hR, hr35_43 hR, hk65 hR, hl65 hR, hk61 hR, hl61 hR, Int.cast_ofNat_Int, kd_si, gr_si, ln_si, gi_same, gi_na, gi_ni, nl_i, nl_r, nl_j, nj_i, nj_l, nj_r, true_and, and_true, and_self, cs_0, cs_1, cs_2, cs_3, cs_4, ↓reduceIte, Nat.reduceLeDiff, Nat.reduceEqDiff, Nat.reduceAdd, Int.reduceLE, Int.reduceLT, Int.reduceEq, Int.reduceAdd, Int.reduceNeg, Int.reduceToNat, Int.toNat_natCast, ne_eq, not_false_eq_true, not_true_eq_false, or_true, true_or, or_false, false_or]
        rw [rwM_si (f := fun t => vlo N (gi N 65 (288 * c + t))) f]
        exact ih (t + 1) (by omega)
      · have f : vlo N (gi N 65 (288 * c + t)) = gi N 65 (288 * c + t) := by
          unfold vlo
          rw [if_neg]
          rw [q2, Int.toNat_natCast]
          exact fun w => q6 w.2
        simp only [↓eX12_makes_168, ↓eX12_makes_171, ↓eX12_makes_174, ↓eX12_makes_175, ↓eX12_makes_178, ↓eX12_makes_181, ↓eX12_makes_182, ↓eX12_makes_183, ↓eX12_makes_184, ↓eX12_makes_185, ↓eX12_makes_186, ↓eX12_makes_187, ↓eX12_makes_190, ↓eX12_makes_191, ↓eX12_makes_194, ↓eX12_makes_195, ↓eX12_makes_198, ↓eX12_makes_201, ↓eX12_makes_202, ↓eX12_makes_203, ↓eX12_makes_204, ↓eX12_makes_205, ↓eX12_makes_206, ↓eX12_makes_207, ↓eX12_makes_210, ↓eX12_makes_211, ↓eX12_makes_214, ↓eX12_makes_217, ↓eX12_makes_218, ↓eX12_makes_219, ↓eX12_makes_220, ↓eX12_makes_221, ↓eX12_makes_222, ↓eX12_makes_223, ↓eX12_makes_226, e, e2, w288 hc, w289 hc (show t < 288 by omega), i0, i1, g65, g61, q2, q6, k1, k2, k3, hk35 hR, hr35_53 hR, hr35_43 hR, hk65 hR, hl65 hR, hk61 hR, hl61 hR, Int.cast_ofNat_Int, kd_si, gr_si, ln_si, gi_same, gi_na, gi_ni, nl_i, nl_r, nl_j, nj_i, nj_l, nj_r, true_and, and_true, and_self, cs_0, cs_1, cs_2, cs_3, cs_4, ↓reduceIte, Nat.reduceLeDiff, Nat.reduceEqDiff, Nat.reduceAdd, Int.reduceLE, Int.reduceLT, Int.reduceEq, Int.reduceAdd, Int.reduceNeg, Int.reduceToNat, Int.toNat_natCast, ne_eq, not_false_eq_true, not_true_eq_false, or_true, true_or, or_false, false_or]
        rw [rwM_no f]
        exact ih (t + 1) (by omega)
