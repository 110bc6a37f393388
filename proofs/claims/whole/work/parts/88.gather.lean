/-! ===== the class gathers candidates ===== -/
def sel (q : Nat → Bool) : Nat → Nat → Nat
  | 0, _ => 0
  | K + 1, j => if q K = true ∧ ctp q K = j then K else sel q K j
theorem sel_at {q : Nat → Bool} {k : Nat} (h : q k = true) : ∀ r, sel q (k + 1 + r) (ctp q k) = k := by
  intro r
  induction r with
  | zero => show sel q (k + 1) (ctp q k) = k; rw [sel, if_pos ⟨h, rfl⟩]
  | succ r ih =>
    show sel q (k + 1 + r + 1) (ctp q k) = k
    rw [sel, if_neg, ih]
    rintro ⟨h1, h2⟩
    have : ∀ s, ctp q (k + 1) ≤ ctp q (k + 1 + s) := by
      intro s
      induction s with
      | zero => exact Nat.le_refl _
      | succ s ih => exact Nat.le_trans ih (ctp_mono q _)
    have := this r
    rw [ctp, if_pos h] at this
    omega
theorem ctp_up {q : Nat → Bool} {k K : Nat} (h : k ≤ K) : ctp q k ≤ ctp q K := by
  obtain ⟨r, rfl⟩ : ∃ r, K = k + r := ⟨K - k, by omega⟩
  clear h
  induction r with
  | zero => exact Nat.le_refl _
  | succ r ih => exact Nat.le_trans ih (ctp_mono q _)
theorem sel_k {q : Nat → Bool} {k K : Nat} (h : q k = true) (hk : k < K) : sel q K (ctp q k) = k := by
  obtain ⟨r, rfl⟩ : ∃ r, K = k + 1 + r := ⟨K - (k + 1), by omega⟩
  exact sel_at h r
theorem sel_ok {q : Nat → Bool} : ∀ K j, j < ctp q K → sel q K j < K ∧ q (sel q K j) = true ∧ ctp q (sel q K j) = j := by
  intro K
  induction K with
  | zero => intro j h; exact absurd h (Nat.not_lt_zero j)
  | succ K ih =>
    intro j h
    rw [sel]
    by_cases z : q K = true ∧ ctp q K = j
    · rw [if_pos z]; exact ⟨Nat.lt_succ_self K, z.1, z.2⟩
    · rw [if_neg z]
      have : j < ctp q K := by
        rw [ctp] at h
        by_cases y : q K = true
        · rw [if_pos y] at h
          have : ctp q K ≠ j := fun w => z ⟨y, w⟩
          omega
        · rw [if_neg y] at h; omega
      obtain ⟨a, b, c⟩ := ih j this
      exact ⟨by omega, b, c⟩
theorem sel_lt {q : Nat → Bool} {K i j : Nat} (hij : i < j) (hj : j < ctp q K) : sel q K i < sel q K j := by
  obtain ⟨a, b, c⟩ := sel_ok (q := q) K i (by omega)
  obtain ⟨a', b', c'⟩ := sel_ok K j hj
  rcases Nat.lt_or_ge (sel q K i) (sel q K j) with w | w
  · exact w
  · have := ctp_up (q := q) w
    omega
/-- the values of a showing, of neither side -/
def enP (B : mM) (D : Nat → Nat → Int) (W k : Nat) : Env := fun i => if i = 0 then gi B 61 (sF D W k).toNat else if i = 1 then gi B 62 (sF D W k).toNat else if i = 2 then (sC D W k : Nat) else if i = 3 then (sT D W k : Nat) else if i = 4 then (sU D W k : Nat) else if i = 5 then wr ((sU D W k : Nat) - (sT D W k : Nat)) else if i = 6 then gi B 55 (gi B 57 (sF D W k).toNat).toNat else if i = 7 then gi B 63 (sF D W k).toNat else if lo B (sF D W) k = k then 1 else 0
theorem enC_P {B N : mM} {D : Nat → Nat → Int} {W k a : Nat} (hs : shob B N D W k a) : enC N a = enP B D W k := by
  obtain ⟨-, s0, s1, s2, s3, s4, s5, s6, s7, s8, s9⟩ := hs
  have le : ((lo B (sF D W) k : Nat) : Int) = (k : Nat) ↔ lo B (sF D W) k = k := by omega
  funext i
  unfold enC enP
  rw [s0, s2, s3, s4, s5, s6, s7, s8, s9]
  by_cases z : lo B (sF D W) k = k
  · rw [if_pos z, if_pos (le.mpr z)]
  · rw [if_neg z, if_neg (fun w => z (le.mp w))]
theorem enM_P {M : mM} {D : Nat → Nat → Int} {W k : Nat} (hk : k < cnt D W 288) (hL : SHL D W (cnt D W 288) M) : enM M k = enP M D W k := by
  obtain ⟨l1, l2, l3, l4⟩ := hL k hk
  have el : lo M (gi M 67) k = lo M (sF D W) k := lo_F (m := cnt D W 288) (fun j hj => (hL j hj).1) hk
  funext i
  unfold enM enP
  rw [el, l1, l2, l3, l4]
theorem wgh_bd {me : Nat → Env → Int} {mt : Nat → Int} {e : Env} {R : Nat} (hm : ∀ r, r < R → b9 (mt r)) : ∀ n r w, r + n = R → b9 w → b9 (wgh me mt e n r w) := by
  intro n
  induction n with
  | zero => intro r w _ h; exact h
  | succ n ih =>
    intro r w hr h
    rw [wgh]
    split
    · split
      · exact ⟨by decide, by decide⟩
      · exact ih (r + 1) _ (by omega) (hm r (by omega))
    · exact ih (r + 1) _ (by omega) h
/-- a candidate's fields by its showing -/
def cfv (B : mM) (D : Nat → Nat → Int) (W : Nat) (ld tl : Int) (wv : Nat → Int) (k i : Nat) : Int := if i = 0 then (k : Int) else if i = 1 then (sC D W k : Nat) else if i = 2 then gi B 61 (sF D W k).toNat else if i = 3 then gi B 62 (sF D W k).toNat else if i = 4 then (sT D W k : Nat) else if i = 5 then (lo B (sF D W) k : Nat) else if i = 6 then wv k else if i = 7 then mMax ((sT D W k : Nat) - ld) 0 else mMin ((sU D W k : Nat) + tl) 288
def cdM (N : mM) (a : Nat) (f : Nat → Int) : mM := si (si (si (si (si (si (si (si (si N a 0 (f 0)) a 1 (f 1)) a 2 (f 2)) a 3 (f 3)) a 4 (f 4)) a 5 (f 5)) a 6 (f 6)) a 7 (f 7)) a 8 (f 8)
theorem gi_cdn {N : mM} {a b i : Nat} {f : Nat → Int} (h : b ≠ a) : gi (cdM N a f) b i = gi N b i := by
  unfold cdM
  rw [gi_na h, gi_na h, gi_na h, gi_na h, gi_na h, gi_na h, gi_na h, gi_na h, gi_na h]
theorem gi_cd {N : mM} {a i : Nat} {f : Nat → Int} (h : i ≤ 8) : gi (cdM N a f) a i = f i := by
  unfold cdM
  simp only [gi_si, true_and]
  rcases (show i = 0 ∨ i = 1 ∨ i = 2 ∨ i = 3 ∨ i = 4 ∨ i = 5 ∨ i = 6 ∨ i = 7 ∨ i = 8 by omega) with rfl | rfl | rfl | rfl | rfl | rfl | rfl | rfl | rfl <;> rfl
theorem x_fillC {d W k a s : Nat} {B N : mM} {Q : mV → mM → Prop} {D : Nat → Nat → Int} {ld tl w : Int} (h20 : kd N 20 = 5) (ha : kd N a = 0) (hs : shob B N D W k s) (hl : gi N 20 1 = ld) (ht : gi N 20 2 = tl) (hl6 : 0 ≤ ld ∧ ld ≤ 6) (ht6 : 0 ≤ tl ∧ tl ≤ 6) (hk : k < cnt D W 288) (a8 : 88 ≤ a) (wv : Nat → Int) (hw : wv k = w) : CP (mc (d + 1)) 1 [vr (some a), vr (some s), vi w, vr (some 20)] N Q = Q vj (cdM N a (cfv B D W ld tl wv k)) := by
  obtain ⟨ks, s0, s1, s2, s3, s4, s5, s6, s7, s8, s9⟩ := hs
  have ns : s ≠ a := fun e => by rw [e, ha] at ks; cases ks
  have n20 : (20 : Nat) ≠ a := by omega
  have u := sU_ok hk
  have w1 : wr ((sT D W k : Nat) - ld) = (sT D W k : Nat) - ld := wr_id (by omega) (by omega)
  have w2 : wr ((sU D W k : Nat) + tl) = (sU D W k : Nat) + tl := wr_id (by omega) (by omega)
  simp only [↓cpX0_fill, ↓eX0_fill_0, ↓eX0_fill_1, ↓eX0_fill_2, ↓eX0_fill_5, ↓eX0_fill_8, ↓eX0_fill_9, ↓eX0_fill_10, ↓eX0_fill_13, ↓eX0_fill_16, ↓eX0_fill_17, ↓eX0_fill_18, ↓eX0_fill_21, ↓eX0_fill_24, ↓eX0_fill_25, ↓eX0_fill_26, ↓eX0_fill_29, ↓eX0_fill_32, ↓eX0_fill_33, ↓eX0_fill_34, ↓eX0_fill_37, ↓eX0_fill_40, ↓eX0_fill_41, ↓eX0_fill_42, ↓eX0_fill_45, ↓eX0_fill_48, ↓eX0_fill_49, ↓eX0_fill_50, ↓eX0_fill_53, ↓eX0_fill_54, ↓eX0_fill_55, ↓eX0_fill_58, ↓eX0_fill_59, ↓eX0_fill_62, ↓eX0_fill_63, ↓eX0_fill_64, ↓eX0_fill_67, ↓eX0_fill_70, ↓eX0_fill_71, ↓eX0_fill_72, ↓eX0_fill_75, ↓eX0_fill_76, ↓eX0_fill_79, ↓eX0_fill_80, ↓eX0_fill_83, ↓eX0_fill_86, ↓eX0_fill_89, ha, ks, h20, ns, n20, s0, s2, s3, s4, s5, s6, s9, hl, ht, w1, w2, Int.cast_ofNat_Int, kd_si, gr_si, ln_si, gi_same, gi_na, gi_ni, nl_i, nl_r, nl_j, nj_i, nj_l, nj_r, true_and, and_true, and_self, cs_0, cs_1, cs_2, cs_3, cs_4, ↓reduceIte, Nat.reduceLeDiff, Nat.reduceEqDiff, Nat.reduceAdd, Int.reduceLE, Int.reduceLT, Int.reduceEq, Int.reduceAdd, Int.reduceNeg, Int.reduceToNat, Int.toNat_natCast, ne_eq, not_false_eq_true, not_true_eq_false, or_true, true_or, or_false, false_or]
  subst hw
  rfl
