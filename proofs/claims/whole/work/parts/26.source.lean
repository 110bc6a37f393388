/-! ===== a new source ===== -/
/-- a whole row of references -/
def sv (M : mM) (a : Nat) (f : Nat → Option Nat) : mM := (M.1, fun b j => if b = a then f j else M.2.1 b j, M.2.2)
theorem gr_svs (M : mM) (a : Nat) (f : Nat → Option Nat) (j : Nat) : gr (sv M a f) a j = f j := if_pos rfl
theorem gr_svn {M : mM} {a b : Nat} {f : Nat → Option Nat} {j : Nat} (h : b ≠ a) : gr (sv M a f) b j = gr M b j := if_neg h
theorem gi_sv (M : mM) (a : Nat) (f : Nat → Option Nat) (b j : Nat) : gi (sv M a f) b j = gi M b j := rfl
theorem kd_sv (M : mM) (a : Nat) (f : Nat → Option Nat) (b : Nat) : kd (sv M a f) b = kd M b := rfl
theorem ln_sv (M : mM) (a : Nat) (f : Nat → Option Nat) (b : Nat) : ln (sv M a f) b = ln M b := rfl
theorem nx_sv (M : mM) (a : Nat) (f : Nat → Option Nat) : nx (sv M a f) = nx M := rfl
theorem sv_id (M : mM) (a : Nat) : sv M a (fun j => gr M a j) = M := by
  unfold sv gr
  refine Prod.ext rfl (Prod.ext ?_ rfl)
  funext b j
  show (if b = a then M.2.1 a j else M.2.1 b j) = M.2.1 b j
  split
  · rename_i h
    rw [h]
  · rfl
theorem sv_sr (M : mM) (a i : Nat) (o : Option Nat) (f : Nat → Option Nat) : sv (sr M a i o) a f = sv M a f := by
  unfold sv sr
  refine Prod.ext rfl (Prod.ext ?_ rfl)
  funext b j
  show (if b = a then f j else (if b = a ∧ j = i then o else M.2.1 b j)) = if b = a then f j else M.2.1 b j
  split
  · rfl
  · rename_i h
    rw [if_neg (fun w => h w.1)]
theorem sv_eq {M : mM} {a : Nat} {f g : Nat → Option Nat} (h : ∀ j, f j = g j) : sv M a f = sv M a g := by
  rw [show f = g from funext h]
theorem SH_sv {M : mM} {a : Nat} {f : Nat → Option Nat} (h : SH M) (ha : ∀ q ∈ rfT, q.1 ≠ a) : SH (sv M a f) := by
  obtain ⟨h1, h2, h3, h4⟩ := h
  exact ⟨h1, h2, fun q hq => by rw [gr_svn (ha q hq)]; exact h3 q hq, h4⟩
/-- the place of a new source of trust t among r ranked ones -/
def ins (T : Nat → Int) (t : Int) : Nat → Nat
  | 0 => 0
  | r + 1 => if t ≤ T r then ins T t r else r + 1
theorem ins_le (T : Nat → Int) (t : Int) : ∀ r, ins T t r ≤ r
  | 0 => Nat.le_refl 0
  | r + 1 => by
    rw [ins]
    split
    · exact Nat.le_trans (ins_le T t r) (Nat.le_succ r)
    · exact Nat.le_refl _
theorem x_outranks {d : Nat} {M : mM} {Q : mV → mM → Prop} {a b : Nat} (ha : kd M a = 7) (hb : kd M b = 7) (hn : gi M a 0 < gi M b 0) : CP (mc (d + 1)) 59 [vr (some a), vr (some b)] M Q = if gi M b 1 ≤ gi M a 1 then Q (vi 1) M else Q (vi 0) M := by
  have e : (gi M b 0 ≤ gi M a 0) = False := eq_false (by omega)
  simp only [↓cpX7_outranks, ↓eX7_outranks_0, ↓eX7_outranks_1, ↓eX7_outranks_4, ↓eX7_outranks_5, ↓eX7_outranks_8, ↓eX7_outranks_11, ↓eX7_outranks_12, ↓eX7_outranks_15, ↓eX7_outranks_16, ↓eX7_outranks_19, ↓eX7_outranks_22, ↓eX7_outranks_23, ↓eX7_outranks_26, ↓eX7_outranks_27, ↓eX7_outranks_28, ↓eX7_outranks_29, ↓eX7_outranks_32, ↓eX7_outranks_33, ↓eX7_outranks_36, ↓eX7_outranks_39, ↓eX7_outranks_40, ↓eX7_outranks_43, ↓eX7_outranks_44, ha, hb, e, Int.cast_ofNat_Int, kd_si, gr_si, ln_si, gi_same, gi_na, gi_ni, nl_i, nl_r, nl_j, nj_i, nj_l, nj_r, true_and, and_true, and_self, cs_0, cs_1, cs_2, cs_3, cs_4, ↓reduceIte, Nat.reduceLeDiff, Nat.reduceEqDiff, Nat.reduceAdd, Int.reduceLE, Int.reduceLT, Int.reduceEq, Int.reduceAdd, Int.reduceNeg, Int.reduceToNat, Int.toNat_natCast, ne_eq, not_false_eq_true, not_true_eq_false, or_true, true_or, or_false, false_or]
  by_cases z : gi M a 1 = gi M b 1
  · rw [if_pos z, if_pos (by omega)]
  · rw [if_neg z]
    by_cases z2 : gi M a 1 ≤ gi M b 1
    · rw [if_pos z2, if_neg (by omega)]
    · rw [if_neg z2, if_pos (by omega)]
theorem rf3 : ∀ q ∈ rfT, q.1 ≠ 3 := by decide
theorem rf2 : ∀ q ∈ rfT, q.1 ≠ 2 := by decide
theorem rf4 : ∀ q ∈ rfT, q.1 ≠ 4 := by decide
theorem x_rank_loop {d : Nat} {Q : mV → mM → Prop} {R : Nat → Nat} {T : Nat → Int} {t0 t n : Int} {b : Nat} : ∀ (r : Nat) (N : mM), r < 6 → SH N → kd N b = 7 → gi N b 0 = n → gi N b 1 = t → (∀ k, k < r → gr N 3 k = some (R k) ∧ kd N (R k) = 7 ∧ gi N (R k) 0 < n ∧ gi N (R k) 1 = T k) →
    WP (mc (d + 1)) tX3_addSource 54 [vr (some 1), vi t0, vr (some b), vi r] [] N Q = WP (mc (d + 1)) tX3_addSource 104 [vr (some 1), vi t0, vr (some b), vi (ins T t r)] [] (sv N 3 (fun j => if ins T t r < j ∧ j ≤ r then gr N 3 (j - 1) else gr N 3 j)) Q := by
  intro r
  induction r with
  | zero =>
    intro N _ h hk hn ht hR
    have e : (fun j : Nat => if ins T t 0 < j ∧ j ≤ 0 then gr N 3 (j - 1) else gr N 3 j) = fun j => gr N 3 j := by
      funext j
      rw [if_neg (by omega)]
    have z : (((0 : Nat) : Int) ≤ 0) = True := eq_true (Int.le_refl 0)
    rw [e, sv_id]
    simp only [↓eX3_addSource_54, ↓eX3_addSource_55, z, Int.cast_ofNat_Int, kd_si, gr_si, ln_si, gi_same, gi_na, gi_ni, nl_i, nl_r, nl_j, nj_i, nj_l, nj_r, true_and, and_true, and_self, cs_0, cs_1, cs_2, cs_3, cs_4, ↓reduceIte, Nat.reduceLeDiff, Nat.reduceEqDiff, Nat.reduceAdd, Int.reduceLE, Int.reduceLT, Int.reduceEq, Int.reduceAdd, Int.reduceNeg, Int.reduceToNat, Int.toNat_natCast, ne_eq, not_false_eq_true, not_true_eq_false, or_true, true_or, or_false, false_or]
    rfl
  | succ r ih =>
    intro N hr h hk hn ht hR
    obtain ⟨g1, g2, g3, g4⟩ := hR r (Nat.lt_succ_self r)
    have e0 : (((r + 1 : Nat) : Int) ≤ 0) = False := eq_false (by omega)
    have e1 : wr (((r + 1 : Nat) : Int) - 1) = (r : Int) := by rw [wr_id (by omega) (by omega)]; omega
    have e2 : wr (((r + 1 : Nat) : Int) + (-1)) = (r : Int) := by rw [wr_id (by omega) (by omega)]; omega
    have e3 : (0 ≤ (r : Int)) = True := eq_true (by omega)
    have e4 : ((r : Int) < 6) = True := eq_true (by omega)
    have e5 : (0 ≤ ((r + 1 : Nat) : Int)) = True := eq_true (by omega)
    have e6 : (((r + 1 : Nat) : Int) < 6) = True := eq_true (by omega)
    have fo := fun (Q : mV → mM → Prop) => x_outranks (d := d) (Q := Q) g2 hk (by rw [hn]; exact g3)
    rw [eX3_addSource_54]
    simp only [↓eX3_addSource_55, ↓eX3_addSource_58, ↓eX3_addSource_59, ↓eX3_addSource_62, ↓eX3_addSource_63, ↓eX3_addSource_64, ↓eX3_addSource_65, ↓eX3_addSource_66, ↓eX3_addSource_69, ↓eX3_addSource_70, ↓eX3_addSource_73, ↓eX3_addSource_74, ↓eX3_addSource_75, ↓eX3_addSource_76, ↓eX3_addSource_77, ↓eX3_addSource_78, ↓eX3_addSource_81, ↓eX3_addSource_84, ↓eX3_addSource_85, ↓eX3_addSource_88, ↓eX3_addSource_89, ↓eX3_addSource_90, ↓eX3_addSource_93, ↓eX3_addSource_94, ↓eX3_addSource_95, ↓eX3_addSource_96, ↓eX3_addSource_97, ↓eX3_addSource_98, ↓eX3_addSource_101, e0, e1, e2, e3, e4, e5, e6, hk1 h, hr1_4 h, hk3 h, hl3 h, g1, g2, ↓fo, ht, g4, reduceCtorEq, Int.cast_ofNat_Int, kd_si, gr_si, ln_si, gi_same, gi_na, gi_ni, nl_i, nl_r, nl_j, nj_i, nj_l, nj_r, true_and, and_true, and_self, cs_0, cs_1, cs_2, cs_3, cs_4, ↓reduceIte, Nat.reduceLeDiff, Nat.reduceEqDiff, Nat.reduceAdd, Int.reduceLE, Int.reduceLT, Int.reduceEq, Int.reduceAdd, Int.reduceNeg, Int.reduceToNat, Int.toNat_natCast, ne_eq, not_false_eq_true, not_true_eq_false, or_true, true_or, or_false, false_or]
    rw [ins]
    by_cases z : t ≤ T r
    · rw [if_pos z, if_pos z, ih (sr N 3 (r + 1) (some (R r))) (by omega) (SH_sr h rf3) hk hn ht (fun k hk2 => by
        obtain ⟨q1, q2⟩ := hR k (by omega)
        exact ⟨by rw [gr_ni (by omega)]; exact q1, q2⟩), sv_sr]
      congr 1
      refine sv_eq (fun j => ?_)
      by_cases y1 : ins T t r < j ∧ j ≤ r
      · rw [if_pos y1, if_pos (by omega), gr_ni (by omega)]
      · rw [if_neg y1]
        by_cases y2 : j = r + 1
        · subst y2
          have := ins_le T t r
          rw [gr_same, if_pos (by omega), Nat.add_sub_cancel, g1]
        · rw [gr_ni y2, if_neg (by omega)]
    · rw [if_neg z, if_neg z]
      have e : (fun j : Nat => if r + 1 < j ∧ j ≤ r + 1 then gr N 3 (j - 1) else gr N 3 j) = fun j => gr N 3 j := by
        funext j
        rw [if_neg (by omega)]
      rw [e, sv_id]
