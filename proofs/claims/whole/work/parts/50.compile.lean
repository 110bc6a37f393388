/-! ===== the class reads a text ===== -/
theorem CR_f {u : Nat} {M N : mM} {s : PS} (hu : u = 21 ∨ u = 26) (h : ∀ a i, (a = 18 ∨ a = 19 ∨ (u ≤ a ∧ a ≤ u + 3)) → gi N a i = gi M a i) (k : CR u M s) : CR u N s := by
  obtain ⟨st, dp, cm, am, wp, nt, R, me, mt, bs, A, O, ck, L, w, V⟩ := s
  obtain ⟨a, b, c⟩ := k
  have e18 := fun i => h 18 i (Or.inl rfl)
  have o2 := fun i => h (u + 2) i (by omega)
  refine ⟨?_, RU_f o2 (fun i => h _ i (by omega)) (fun i _ => h _ i (by omega)) b, ?_⟩
  · simp only [e18, h u 0 (by omega)]
    exact a
  · rw [rst_f o2]
    exact CS_f (e18 8) (fun i => h _ i (by omega)) (h _ _ (by omega)) (fun i => h _ i (by omega)) (Nat.le_refl _) c
theorem x_accept {d : Nat} {M : mM} {Q : mV → mM → Prop} {u : Nat} {s : PS} {k v : Int} {b : Nat} (h : SH M) (hu : u = 21 ∨ u = 26) (hp : PI s) (hc : CR u M s) (hk : gi M 16 1 = k) (hv : k = 1 → gi M 16 2 = v ∧ 0 ≤ v) (hb : gi M 16 3 = b)
    (hF : flt s k ≠ 0 → Q vj (si (si M 18 0 (flt s k)) 18 1 b))
    (hQ : flt s k = 0 → ∀ N, YF (rdS u) M N → CR u N (nxt s k v b) → Q vj N) : CP (mc (d + 5)) 78 [vr (some 18), vr (some 16), vr (some u)] M Q := by
  obtain ⟨st, dp, cm, am, wp, nt, R, me, mt, bs, A, O, ck, L, w, V⟩ := s
  obtain ⟨⟨f0, f1, f2, f3, f4, f5, f6, f7, fu⟩, hRU, hCS⟩ := hc
  have fg := fun (Q : mV → mM → Prop) => x_goesOnWith (d := d + 1) (M := M) (Q := Q) (k := k) h f3 f5 f6 hp.1
  have fm := fun (Q : mV → mM → Prop) => x_isTooMuch (d := d + 3) (M := M) (Q := Q) (u := u) (k := k) h hu f3 f4 f5 fu
  have ku : kd M u = 10 := (wsh h hu).1
  by_cases g : goes st dp cm k
  · by_cases m : much st dp nt R k
    · have e : flt (st, dp, cm, am, wp, nt, R, me, mt, bs, A, O, ck, L, w, V) k = 2 := by
        unfold flt
        simp only [if_neg (not_not_intro g), if_pos m]
      rw [e] at hF
      simp only [↓cpX9_accept, ↓eX9_accept_0, ↓eX9_accept_1, ↓eX9_accept_2, ↓eX9_accept_5, ↓eX9_accept_8, ↓eX9_accept_11, ↓eX9_accept_12, ↓eX9_accept_13, ↓eX9_accept_14, ↓eX9_accept_17, ↓eX9_accept_20, ↓eX9_accept_23, ↓eX9_accept_24, ↓eX9_accept_25, ↓eX9_accept_28, ↓eX9_accept_29, ↓eX9_accept_32, ↓eX9_accept_35, ↓eX9_accept_36, ↓eX9_accept_37, ↓eX9_accept_38, ↓eX9_accept_41, ↓eX9_accept_44, ↓eX9_accept_63, ↓cpX9_fail, ↓eX9_fail_0, ↓eX9_fail_1, ↓eX9_fail_2, ↓eX9_fail_5, ↓eX9_fail_6, ↓eX9_fail_7, ↓eX9_fail_10, hk18 h, hk16 h, hk, ↓fg, ↓fm, if_pos g, if_pos m, hb, Int.cast_ofNat_Int, kd_si, gr_si, ln_si, gi_same, gi_na, gi_ni, nl_i, nl_r, nl_j, nj_i, nj_l, nj_r, true_and, and_true, and_self, cs_0, cs_1, cs_2, cs_3, cs_4, ↓reduceIte, Nat.reduceLeDiff, Nat.reduceEqDiff, Nat.reduceAdd, Int.reduceLE, Int.reduceLT, Int.reduceEq, Int.reduceAdd, Int.reduceNeg, Int.reduceToNat, Int.toNat_natCast, ne_eq, not_false_eq_true, not_true_eq_false, or_true, true_or, or_false, false_or]
      exact hF (by decide)
    · have e : flt (st, dp, cm, am, wp, nt, R, me, mt, bs, A, O, ck, L, w, V) k = 0 := by
        unfold flt
        simp only [if_neg (not_not_intro g), if_neg m]
      have n4 : nt < 400 := by unfold much at m; omega
      have w4 : wr ((nt : Int) + 1) = ((nt + 1 : Nat) : Int) := by rw [wr_id (by omega) (by omega)]; omega
      simp only [↓cpX9_accept, ↓eX9_accept_0, ↓eX9_accept_1, ↓eX9_accept_2, ↓eX9_accept_5, ↓eX9_accept_8, ↓eX9_accept_11, ↓eX9_accept_12, ↓eX9_accept_13, ↓eX9_accept_14, ↓eX9_accept_17, ↓eX9_accept_20, ↓eX9_accept_23, ↓eX9_accept_24, ↓eX9_accept_25, ↓eX9_accept_28, ↓eX9_accept_29, ↓eX9_accept_32, ↓eX9_accept_35, ↓eX9_accept_36, ↓eX9_accept_37, ↓eX9_accept_38, ↓eX9_accept_41, ↓eX9_accept_44, ↓eX9_accept_47, ↓eX9_accept_48, ↓eX9_accept_49, ↓eX9_accept_52, ↓eX9_accept_53, ↓eX9_accept_54, ↓eX9_accept_57, ↓eX9_accept_58, ↓eX9_accept_59, ↓eX9_accept_60, hk18 h, hk16 h, hk, ↓fg, ↓fm, if_pos g, if_neg m, f4, w4, Int.cast_ofNat_Int, kd_si, gr_si, ln_si, gi_same, gi_na, gi_ni, nl_i, nl_r, nl_j, nj_i, nj_l, nj_r, true_and, and_true, and_self, cs_0, cs_1, cs_2, cs_3, cs_4, ↓reduceIte, Nat.reduceLeDiff, Nat.reduceEqDiff, Nat.reduceAdd, Int.reduceLE, Int.reduceLT, Int.reduceEq, Int.reduceAdd, Int.reduceNeg, Int.reduceToNat, Int.toNat_natCast, ne_eq, not_false_eq_true, not_true_eq_false, or_true, true_or, or_false, false_or]
      obtain ⟨M1, hM1⟩ : ∃ M1, M1 = si M 18 4 (nt + 1 : Nat) := ⟨_, rfl⟩
      rw [← hM1]
      have s1 : SH M1 := by rw [hM1]; exact h
      have y1 : YF f18 M M1 := by rw [hM1]; exact YF_si ⟨rfl, by decide⟩ YF_refl
      have e18 : ∀ i, i ≠ 4 → gi M1 18 i = gi M 18 i := fun i hi => by rw [hM1, gi_ni hi]
      have e16 : ∀ i, gi M1 16 i = gi M 16 i := fun i => by rw [hM1, gi_na (by decide)]
      have tail : ∀ N, YF (rdS u) M1 N → CR u N (nxt (st, dp, cm, am, wp, nt, R, me, mt, bs, A, O, ck, L, w, V) k v b) → (fun (x : mV) (N : mM) => x = vj ∧ WP (mc (d + 4)) tX9_accept 63 [vr (some 18), vr (some 16), vr (some u)] [] N Q) vj N := fun N y1' cN => ⟨rfl, by
        simp only [↓eX9_accept_63, Int.cast_ofNat_Int, kd_si, gr_si, ln_si, gi_same, gi_na, gi_ni, nl_i, nl_r, nl_j, nj_i, nj_l, nj_r, true_and, and_true, and_self, cs_0, cs_1, cs_2, cs_3, cs_4, ↓reduceIte, Nat.reduceLeDiff, Nat.reduceEqDiff, Nat.reduceAdd, Int.reduceLE, Int.reduceLT, Int.reduceEq, Int.reduceAdd, Int.reduceNeg, Int.reduceToNat, Int.toNat_natCast, ne_eq, not_false_eq_true, not_true_eq_false, or_true, true_or, or_false, false_or]
        exact hQ e N (YF_trans (rd18 y1) y1') cN⟩
      by_cases z : st ≤ 4
      · exact x_takeA s1 hu (by rw [e18 0 (by decide)]; exact f0) (by rw [e18 1 (by decide)]; exact f1) (by rw [e18 2 (by decide)]; exact f2) (by rw [e18 3 (by decide)]; exact f3) (by rw [hM1, gi_same]) (by rw [e18 5 (by decide)]; exact f5) (by rw [e18 6 (by decide)]; exact f6) (fun z => by rw [e18 7 (by decide)]; exact f7 z) (by rw [hM1, gi_na (by omega)]; exact fu) (RU_18 hu y1 hRU) (by rw [rst_18 hu y1]; exact CS_18 hu y1 (Nat.le_refl _) hCS) hp g m z (by rw [e16]; exact hk) (fun z => by rw [e16]; exact hv z) (by rw [e16]; exact hb) tail
      · exact x_takeB s1 hu (by rw [e18 0 (by decide)]; exact f0) (by rw [e18 1 (by decide)]; exact f1) (by rw [e18 2 (by decide)]; exact f2) (by rw [e18 3 (by decide)]; exact f3) (by rw [hM1, gi_same]) (by rw [e18 5 (by decide)]; exact f5) (by rw [e18 6 (by decide)]; exact f6) (fun z => by rw [e18 7 (by decide)]; exact f7 z) (by rw [hM1, gi_na (by omega)]; exact fu) (RU_18 hu y1 hRU) (by rw [rst_18 hu y1]; exact CS_18 hu y1 (Nat.le_refl _) hCS) hp g m (by have := hp.1; omega) (by rw [e16]; exact hk) tail
  · have e : flt (st, dp, cm, am, wp, nt, R, me, mt, bs, A, O, ck, L, w, V) k = 1 := by
      unfold flt
      simp only [if_pos g]
    rw [e] at hF
    simp only [↓cpX9_accept, ↓eX9_accept_0, ↓eX9_accept_1, ↓eX9_accept_2, ↓eX9_accept_5, ↓eX9_accept_8, ↓eX9_accept_11, ↓eX9_accept_12, ↓eX9_accept_13, ↓eX9_accept_14, ↓eX9_accept_17, ↓eX9_accept_20, ↓eX9_accept_63, ↓cpX9_fail, ↓eX9_fail_0, ↓eX9_fail_1, ↓eX9_fail_2, ↓eX9_fail_5, ↓eX9_fail_6, ↓eX9_fail_7, ↓eX9_fail_10, hk18 h, hk16 h, hk, ↓fg, if_neg g, hb, Int.cast_ofNat_Int, kd_si, gr_si, ln_si, gi_same, gi_na, gi_ni, nl_i, nl_r, nl_j, nj_i, nj_l, nj_r, true_and, and_true, and_self, cs_0, cs_1, cs_2, cs_3, cs_4, ↓reduceIte, Nat.reduceLeDiff, Nat.reduceEqDiff, Nat.reduceAdd, Int.reduceLE, Int.reduceLT, Int.reduceEq, Int.reduceAdd, Int.reduceNeg, Int.reduceToNat, Int.toNat_natCast, ne_eq, not_false_eq_true, not_true_eq_false, or_true, true_or, or_false, false_or]
    exact hF (by decide)
theorem dgE_all {B : Nat → Int} : ∀ r i, ∀ j, i ≤ j → j < dgE B r i → isDg (B j) := by
  intro r
  induction r with
  | zero => intro i j h1 h2; rw [dgE] at h2; omega
  | succ r ih =>
    intro i j h1
    rw [dgE]
    by_cases q : isDg (B i)
    · rw [if_pos q]
      intro h2
      by_cases z : j = i
      · rw [z]; exact q
      · exact ih (i + 1) j (by omega) h2
    · rw [if_neg q]; intro h2; omega
def okKv (x : Int) : Prop := x ≠ 1 ∧ 0 ≤ x ∧ x ≤ 25
theorem okKv_i {c : Prop} [Decidable c] {a b : Int} (h1 : okKv a) (h2 : okKv b) : okKv (if c then a else b) := by
  split
  · exact h1
  · exact h2
theorem okKv_d {a : Int} (h1 : a ≠ 1) (h2 : 0 ≤ a) (h3 : a ≤ 25) : okKv a := ⟨h1, h2, h3⟩
theorem kw_v (B : Nat → Int) (i n : Nat) : kw B i n ≠ 1 ∧ 0 ≤ kw B i n ∧ kw B i n ≤ 25 := by
  show okKv (kw B i n)
  unfold kw
  repeat (refine okKv_i (okKv_d (by decide) (by decide) (by decide)) ?_)
  exact okKv_d (by decide) (by decide) (by decide)
theorem ks_v (c : Int) : ks c ≠ 1 ∧ 0 ≤ ks c ∧ ks c ≤ 25 := by
  show okKv (ks c)
  unfold ks
  repeat (refine okKv_i (okKv_d (by decide) (by decide) (by decide)) ?_)
  exact okKv_d (by decide) (by decide) (by decide)
theorem tk_1 {B : Nat → Int} {sz i : Nat} (h : tkK B sz i = 1) : 0 ≤ tkV B sz i ∧ tkV B sz i ≤ 9999 := by
  rw [tkK] at h
  by_cases l : isLt (B i)
  · rw [if_pos l] at h
    by_cases y : 8 < tkE B sz i - i
    · rw [if_pos y] at h; omega
    · rw [if_neg y] at h
      exact absurd h (kw_v B i _).1
  · rw [if_neg l] at h
    by_cases g : isDg (B i)
    · rw [if_pos g] at h
      have hE : dgE B (sz - i) i = tkE B sz i := by rw [tkE, if_neg l, if_pos g]
      by_cases y : 4 < tkE B sz i - i
      · rw [if_pos y] at h; omega
      · have r := nv_r (B := B) (i := i) (tkE B sz i - i) (fun j hj => dgE_all (sz - i) i (i + j) (by omega) (by rw [hE]; omega))
        have nb : (10 ^ (tkE B sz i - i) : Nat) ≤ 10 ^ 4 := Nat.pow_le_pow_right (by decide) (by omega)
        unfold tkV
        omega
    · rw [if_neg g] at h
      by_cases y : prd B sz i
      · rw [if_pos y] at h
        have := kp_v (B i)
        omega
      · rw [if_neg y] at h
        exact absurd h (ks_v (B i)).1
theorem ok_400 {B : Nat → Int} {sz k : Nat} (h : ok B sz k) : k ≤ 400 := by
  have p := sg_PI k h
  have n := sg_nt (B := B) (sz := sz) k
  generalize sg B sz k = s at *
  obtain ⟨st, dp, cm, am, wp, nt, R, me, mt, bs, A, O, ck, L, w, V⟩ := s
  have := p.2.2.1
  have n' : nt = k := n
  omega
/-- what a reading that ends at token k answers, and the place -/
def sgW (s : PS) : Int := s.2.2.2.2.1
def sgR (s : PS) : Nat := s.2.2.2.2.2.2.1
def sgM (s : PS) : Nat → Env → Int := s.2.2.2.2.2.2.2.1
def sgA (s : PS) : Nat → Int := s.2.2.2.2.2.2.2.2.1
def rsF (B : Nat → Int) (sz k : Nat) : Int := if bg B sz k < sz then flt (sg B sz k) (tk B sz k) else if (sg B sz k).1 ≠ 0 then 1 else if sgW (sg B sz k) ≠ -1 then 5 else 0
def rsP (B : Nat → Int) (sz k : Nat) : Int := if bg B sz k < sz then bg B sz k else if (sg B sz k).1 ≠ 0 then sz else sgW (sg B sz k)
def cpS (u a i : Nat) : Prop := rdS u a i ∨ tpS a i
theorem x_comp_loop {d : Nat} {M : mM} {Q : mV → mM → Prop} {u sz : Nat} {B : Nat → Int} (h : SH M) (hu : u = 21 ∨ u = 26) (hs : gi M 16 0 = sz) (h2 : sz ≤ 2000) (hB : gi M 17 = B)
    (hQ : ∀ N k, fin B sz k → YF (cpS u) M N → gi N 18 0 = rsF B sz k → gi N 18 1 = rsP B sz k → (rsF B sz k = 0 → gi N u 0 = (sgR (sg B sz k) : Nat) ∧ RU u N (sgR (sg B sz k)) (sgM (sg B sz k)) (sgA (sg B sz k))) → Q vj N) :
    ∀ (f k : Nat) (N : mM), 401 - k ≤ f → ok B sz k → YF (cpS u) M N → CR u N (sg B sz k) → gi N 16 4 = (bgE B sz k : Nat) → WP (mc (d + 5)) tX9_compile 14 [vr (some 18), vr (some 16), vr (some u), vi k] [] N Q := by
  intro f
  induction f with
  | zero =>
    intro k N hf hk
    have := ok_400 hk
    omega
  | succ f ih =>
    intro k N hf hk yN cN h4
    have hN := YF_SH yN h
    have k4 := ok_400 hk
    have hp := sg_PI k hk
    have ku : kd N u = 10 := (wsh hN hu).1
    have e0 : ((2000 : Int) ≤ (k : Int)) = False := eq_false (by omega)
    have e1 : wr ((k : Int) + 1) = ((k + 1 : Nat) : Int) := by rw [wr_id (by omega) (by omega)]; omega
    have g0 : gi N 18 0 = 0 := by
      generalize sg B sz k = s at cN
      obtain ⟨st, dp, cm, am, wp, nt, R, me, mt, bs, A, O, ck, L, w, V⟩ := s
      exact cN.1.1
    have hs' : gi N 16 0 = sz := by rw [yN.2 16 0 (by unfold cpS rdS tpS; omega)]; exact hs
    have hB' : gi N 17 = B := by rw [← hB]; funext j; exact yN.2 17 j (by unfold cpS rdS tpS; omega)
    have adv := x_advance (d := d + 2) (M := N) (Q := fun v R => v ≠ vj ∧ WP (mc (d + 5)) tX9_compile 32 [vr (some 18), vr (some 16), vr (some u), vi k] [v] R Q) (sz := sz) (e := bgE B sz k) hN hs' h2 h4 (bgE_le B sz k) (by
      intro hsk R yR
      rw [hB'] at hsk
      have hbg : bg B sz k = sz := hsk
      refine ⟨(fun w => by cases w), ?_⟩
      have sR := YF_SH yR hN
      have yMR : YF (cpS u) M R := YF_trans yN (YF_mono (fun a i z => Or.inr z) yR)
      have cR : CR u R (sg B sz k) := CR_f hu (fun a i z => yR.2 a i (by unfold tpS; omega)) cN
      have hfin : fin B sz k := ⟨hk, Or.inl hbg⟩
      have hF : rsF B sz k = if (sg B sz k).1 ≠ 0 then 1 else if sgW (sg B sz k) ≠ -1 then 5 else 0 := by unfold rsF; rw [if_neg (by omega)]
      have hP : rsP B sz k = if (sg B sz k).1 ≠ 0 then (sz : Int) else sgW (sg B sz k) := by unfold rsP; rw [if_neg (by omega)]
      have hs2 : gi R 16 0 = sz := by rw [yMR.2 16 0 (by unfold cpS rdS tpS; omega)]; exact hs
      have hq := fun N => hQ N k hfin
      rw [hF, hP] at hq
      clear hQ hF hP
      generalize sg B sz k = s at *
      obtain ⟨st, dp, cm, am, wp, nt, R', me, mt, bs, A, O, ck, L, w, V⟩ := s
      obtain ⟨⟨f0, f1, f2, f3, f4, f5, f6, f7, fu⟩, hRU, hCS⟩ := cR
      have hq' : ∀ N, YF (cpS u) M N → gi N 18 0 = (if st ≠ 0 then 1 else if wp ≠ -1 then 5 else 0) → gi N 18 1 = (if st ≠ 0 then (sz : Int) else wp) → ((if st ≠ 0 then (1 : Int) else if wp ≠ -1 then 5 else 0) = 0 → gi N u 0 = (R' : Nat) ∧ RU u N R' me mt) → Q vj N := fun N => hq N
      clear hq
      have y18 : ∀ x y, YF (cpS u) M (si (si R 18 0 x) 18 1 y) := fun x y => YF_si (Or.inl (Or.inl rfl)) (YF_si (Or.inl (Or.inl rfl)) yMR)
      by_cases z : st = 0
      · have zi : ((st : Int) = 0) = True := eq_true (by omega)
        by_cases zw : wp = -1
        · simp only [↓eX9_compile_32, ↓eX9_compile_35, ↓eX9_compile_36, ↓eX9_compile_37, ↓eX9_compile_38, ↓eX9_compile_41, ↓eX9_compile_44, ↓eX9_compile_47, ↓eX9_compile_48, ↓eX9_compile_51, ↓eX9_compile_54, ↓eX9_compile_55, ↓eX9_compile_58, ↓eX9_compile_61, ↓eX9_compile_62, ↓eX9_compile_63, ↓eX9_compile_64, ↓eX9_compile_67, ↓eX9_compile_70, ↓eX9_compile_71, ↓eX9_compile_74, ↓eX9_compile_77, ↓eX9_compile_78, ↓eX9_compile_81, ↓eX9_compile_82, ↓eX9_compile_85, ↓eX9_compile_86, ↓eX9_compile_87, ↓eX9_compile_88, ↓eX9_compile_91, ↓eX9_compile_94, hk18 sR, f0, f3, zi, f2, zw, Int.cast_ofNat_Int, kd_si, gr_si, ln_si, gi_same, gi_na, gi_ni, nl_i, nl_r, nl_j, nj_i, nj_l, nj_r, true_and, and_true, and_self, cs_0, cs_1, cs_2, cs_3, cs_4, ↓reduceIte, Nat.reduceLeDiff, Nat.reduceEqDiff, Nat.reduceAdd, Int.reduceLE, Int.reduceLT, Int.reduceEq, Int.reduceAdd, Int.reduceNeg, Int.reduceToNat, Int.toNat_natCast, ne_eq, not_false_eq_true, not_true_eq_false, or_true, true_or, or_false, false_or]
          refine hq' R yMR ?_ ?_ ?_
          · rw [f0, if_neg (fun w => w z), if_neg (fun w => w zw)]
          · rw [f1, if_neg (fun w => w z), zw]
          · intro _; exact ⟨fu, hRU⟩
        · simp only [↓eX9_compile_32, ↓eX9_compile_35, ↓eX9_compile_36, ↓eX9_compile_37, ↓eX9_compile_38, ↓eX9_compile_41, ↓eX9_compile_44, ↓eX9_compile_47, ↓eX9_compile_48, ↓eX9_compile_51, ↓eX9_compile_54, ↓eX9_compile_55, ↓eX9_compile_58, ↓eX9_compile_61, ↓eX9_compile_62, ↓eX9_compile_63, ↓eX9_compile_64, ↓eX9_compile_67, ↓eX9_compile_70, ↓eX9_compile_71, ↓eX9_compile_74, ↓eX9_compile_77, ↓eX9_compile_78, ↓eX9_compile_81, ↓eX9_compile_82, ↓eX9_compile_85, ↓eX9_compile_86, ↓eX9_compile_87, ↓eX9_compile_88, ↓eX9_compile_91, ↓eX9_compile_94, ↓cpX9_fail, ↓eX9_fail_0, ↓eX9_fail_1, ↓eX9_fail_2, ↓eX9_fail_5, ↓eX9_fail_6, ↓eX9_fail_7, ↓eX9_fail_10, hk18 sR, f0, f3, zi, f2, zw, Int.cast_ofNat_Int, kd_si, gr_si, ln_si, gi_same, gi_na, gi_ni, nl_i, nl_r, nl_j, nj_i, nj_l, nj_r, true_and, and_true, and_self, cs_0, cs_1, cs_2, cs_3, cs_4, ↓reduceIte, Nat.reduceLeDiff, Nat.reduceEqDiff, Nat.reduceAdd, Int.reduceLE, Int.reduceLT, Int.reduceEq, Int.reduceAdd, Int.reduceNeg, Int.reduceToNat, Int.toNat_natCast, ne_eq, not_false_eq_true, not_true_eq_false, or_true, true_or, or_false, false_or]
          refine hq' _ (y18 5 wp) ?_ ?_ ?_
          · rw [if_neg (fun w => w z), if_pos zw]; simp only [Int.cast_ofNat_Int, kd_si, gr_si, ln_si, gi_same, gi_na, gi_ni, nl_i, nl_r, nl_j, nj_i, nj_l, nj_r, true_and, and_true, and_self, cs_0, cs_1, cs_2, cs_3, cs_4, ↓reduceIte, Nat.reduceLeDiff, Nat.reduceEqDiff, Nat.reduceAdd, Int.reduceLE, Int.reduceLT, Int.reduceEq, Int.reduceAdd, Int.reduceNeg, Int.reduceToNat, Int.toNat_natCast, ne_eq, not_false_eq_true, not_true_eq_false, or_true, true_or, or_false, false_or]
          · rw [if_neg (fun w => w z)]; simp only [Int.cast_ofNat_Int, kd_si, gr_si, ln_si, gi_same, gi_na, gi_ni, nl_i, nl_r, nl_j, nj_i, nj_l, nj_r, true_and, and_true, and_self, cs_0, cs_1, cs_2, cs_3, cs_4, ↓reduceIte, Nat.reduceLeDiff, Nat.reduceEqDiff, Nat.reduceAdd, Int.reduceLE, Int.reduceLT, Int.reduceEq, Int.reduceAdd, Int.reduceNeg, Int.reduceToNat, Int.toNat_natCast, ne_eq, not_false_eq_true, not_true_eq_false, or_true, true_or, or_false, false_or]
          · rw [if_neg (fun w => w z), if_pos zw]; intro w; cases w
      · have zi : ((st : Int) = 0) = False := eq_false (by omega)
        simp only [↓eX9_compile_32, ↓eX9_compile_35, ↓eX9_compile_36, ↓eX9_compile_37, ↓eX9_compile_38, ↓eX9_compile_41, ↓eX9_compile_44, ↓eX9_compile_47, ↓eX9_compile_48, ↓eX9_compile_51, ↓eX9_compile_54, ↓eX9_compile_55, ↓eX9_compile_58, ↓eX9_compile_61, ↓eX9_compile_62, ↓eX9_compile_63, ↓eX9_compile_64, ↓eX9_compile_67, ↓eX9_compile_70, ↓eX9_compile_71, ↓eX9_compile_74, ↓eX9_compile_77, ↓eX9_compile_78, ↓eX9_compile_81, ↓eX9_compile_82, ↓eX9_compile_85, ↓eX9_compile_86, ↓eX9_compile_87, ↓eX9_compile_88, ↓eX9_compile_91, ↓eX9_compile_94, ↓cpX9_fail, ↓eX9_fail_0, ↓eX9_fail_1, ↓eX9_fail_2, ↓eX9_fail_5, ↓eX9_fail_6, ↓eX9_fail_7, ↓eX9_fail_10, hk18 sR, hk16 sR, f0, f3, zi, hs2, Int.cast_ofNat_Int, kd_si, gr_si, ln_si, gi_same, gi_na, gi_ni, nl_i, nl_r, nl_j, nj_i, nj_l, nj_r, true_and, and_true, and_self, cs_0, cs_1, cs_2, cs_3, cs_4, ↓reduceIte, Nat.reduceLeDiff, Nat.reduceEqDiff, Nat.reduceAdd, Int.reduceLE, Int.reduceLT, Int.reduceEq, Int.reduceAdd, Int.reduceNeg, Int.reduceToNat, Int.toNat_natCast, ne_eq, not_false_eq_true, not_true_eq_false, or_true, true_or, or_false, false_or]
        refine hq' _ (y18 1 sz) ?_ ?_ ?_
        · rw [if_pos z]; simp only [Int.cast_ofNat_Int, kd_si, gr_si, ln_si, gi_same, gi_na, gi_ni, nl_i, nl_r, nl_j, nj_i, nj_l, nj_r, true_and, and_true, and_self, cs_0, cs_1, cs_2, cs_3, cs_4, ↓reduceIte, Nat.reduceLeDiff, Nat.reduceEqDiff, Nat.reduceAdd, Int.reduceLE, Int.reduceLT, Int.reduceEq, Int.reduceAdd, Int.reduceNeg, Int.reduceToNat, Int.toNat_natCast, ne_eq, not_false_eq_true, not_true_eq_false, or_true, true_or, or_false, false_or]
        · rw [if_pos z]; simp only [Int.cast_ofNat_Int, kd_si, gr_si, ln_si, gi_same, gi_na, gi_ni, nl_i, nl_r, nl_j, nj_i, nj_l, nj_r, true_and, and_true, and_self, cs_0, cs_1, cs_2, cs_3, cs_4, ↓reduceIte, Nat.reduceLeDiff, Nat.reduceEqDiff, Nat.reduceAdd, Int.reduceLE, Int.reduceLT, Int.reduceEq, Int.reduceAdd, Int.reduceNeg, Int.reduceToNat, Int.toNat_natCast, ne_eq, not_false_eq_true, not_true_eq_false, or_true, true_or, or_false, false_or]
        · rw [if_pos z]; intro w; cases w) (by
      intro hsk R yR r1 r3 r4 r2
      rw [hB'] at hsk r1 r2 r3 r4
      have hbg : bg B sz k < sz := hsk
      have r1' : gi R 16 1 = tk B sz k := r1
      have r3' : gi R 16 3 = (bg B sz k : Nat) := r3
      have r4' : gi R 16 4 = (tkE B sz (bg B sz k) : Nat) := r4
      refine ⟨(fun w => by cases w), ?_⟩
      have sR := YF_SH yR hN
      have yMR : YF (cpS u) M R := YF_trans yN (YF_mono (fun a i z => Or.inr z) yR)
      have cR : CR u R (sg B sz k) := CR_f hu (fun a i z => yR.2 a i (by unfold tpS; omega)) cN
      have kuR : kd R u = 10 := (wsh sR hu).1
      simp only [↓eX9_compile_32, ↓eX9_compile_35, ↓eX9_compile_36, ↓eX9_compile_37, ↓eX9_compile_38, hk18 sR, Int.cast_ofNat_Int, kd_si, gr_si, ln_si, gi_same, gi_na, gi_ni, nl_i, nl_r, nl_j, nj_i, nj_l, nj_r, true_and, and_true, and_self, cs_0, cs_1, cs_2, cs_3, cs_4, ↓reduceIte, Nat.reduceLeDiff, Nat.reduceEqDiff, Nat.reduceAdd, Int.reduceLE, Int.reduceLT, Int.reduceEq, Int.reduceAdd, Int.reduceNeg, Int.reduceToNat, Int.toNat_natCast, ne_eq, not_false_eq_true, not_true_eq_false, or_true, true_or, or_false, false_or]
      refine x_accept (s := sg B sz k) (k := tk B sz k) (v := tvv B sz k) (b := bg B sz k) sR hu hp cR r1' (fun z => ⟨r2 z, (tk_1 z).1⟩) r3' (fun hne => ⟨rfl, ?_⟩) (fun h0 P yP cP => ⟨rfl, ?_⟩)
      · have sP : SH (si (si R 18 0 (flt (sg B sz k) (tk B sz k))) 18 1 (bg B sz k : Nat)) := sR
        have i0 : (flt (sg B sz k) (tk B sz k) = 0) = False := eq_false hne
        have e3 : ((2000 : Int) ≤ ((k + 1 : Nat) : Int)) = False := eq_false (by omega)
        simp only [↓eX9_compile_41, ↓eX9_compile_44, ↓eX9_compile_47, ↓eX9_compile_48, ↓eX9_compile_51, ↓eX9_compile_54, ↓eX9_compile_55, ↓eX9_compile_58, ↓eX9_compile_61, ↓eX9_compile_62, ↓eX9_compile_63, ↓eX9_compile_64, ↓eX9_compile_67, ↓eX9_compile_70, ↓eX9_compile_71, ↓eX9_compile_74, ↓eX9_compile_77, ↓eX9_compile_78, ↓eX9_compile_81, ↓eX9_compile_82, ↓eX9_compile_85, ↓eX9_compile_86, ↓eX9_compile_87, ↓eX9_compile_88, ↓eX9_compile_91, ↓eX9_compile_94, ↓eX9_compile_14, ↓eX9_compile_15, ↓eX9_compile_18, ↓eX9_compile_21, ↓eX9_compile_22, ↓eX9_compile_25, hk18 sP, e1, e3, i0, Int.cast_ofNat_Int, kd_si, gr_si, ln_si, gi_same, gi_na, gi_ni, nl_i, nl_r, nl_j, nj_i, nj_l, nj_r, true_and, and_true, and_self, cs_0, cs_1, cs_2, cs_3, cs_4, ↓reduceIte, Nat.reduceLeDiff, Nat.reduceEqDiff, Nat.reduceAdd, Int.reduceLE, Int.reduceLT, Int.reduceEq, Int.reduceAdd, Int.reduceNeg, Int.reduceToNat, Int.toNat_natCast, ne_eq, not_false_eq_true, not_true_eq_false, or_true, true_or, or_false, false_or]
        refine hQ _ k ⟨hk, Or.inr ⟨hbg, hne⟩⟩ (YF_si (Or.inl (Or.inl rfl)) (YF_si (Or.inl (Or.inl rfl)) yMR)) ?_ ?_ ?_
        · unfold rsF; rw [if_pos hbg]; simp only [Int.cast_ofNat_Int, kd_si, gr_si, ln_si, gi_same, gi_na, gi_ni, nl_i, nl_r, nl_j, nj_i, nj_l, nj_r, true_and, and_true, and_self, cs_0, cs_1, cs_2, cs_3, cs_4, ↓reduceIte, Nat.reduceLeDiff, Nat.reduceEqDiff, Nat.reduceAdd, Int.reduceLE, Int.reduceLT, Int.reduceEq, Int.reduceAdd, Int.reduceNeg, Int.reduceToNat, Int.toNat_natCast, ne_eq, not_false_eq_true, not_true_eq_false, or_true, true_or, or_false, false_or]
        · unfold rsP; rw [if_pos hbg]; simp only [Int.cast_ofNat_Int, kd_si, gr_si, ln_si, gi_same, gi_na, gi_ni, nl_i, nl_r, nl_j, nj_i, nj_l, nj_r, true_and, and_true, and_self, cs_0, cs_1, cs_2, cs_3, cs_4, ↓reduceIte, Nat.reduceLeDiff, Nat.reduceEqDiff, Nat.reduceAdd, Int.reduceLE, Int.reduceLT, Int.reduceEq, Int.reduceAdd, Int.reduceNeg, Int.reduceToNat, Int.toNat_natCast, ne_eq, not_false_eq_true, not_true_eq_false, or_true, true_or, or_false, false_or]
        · unfold rsF; rw [if_pos hbg]; exact fun w => absurd w hne
      · simp only [↓eX9_compile_41, ↓eX9_compile_44, e1, Int.cast_ofNat_Int, kd_si, gr_si, ln_si, gi_same, gi_na, gi_ni, nl_i, nl_r, nl_j, nj_i, nj_l, nj_r, true_and, and_true, and_self, cs_0, cs_1, cs_2, cs_3, cs_4, ↓reduceIte, Nat.reduceLeDiff, Nat.reduceEqDiff, Nat.reduceAdd, Int.reduceLE, Int.reduceLT, Int.reduceEq, Int.reduceAdd, Int.reduceNeg, Int.reduceToNat, Int.toNat_natCast, ne_eq, not_false_eq_true, not_true_eq_false, or_true, true_or, or_false, false_or]
        refine ih (k + 1) P (by omega) (ok_s hk hbg h0) (YF_trans yMR (YF_mono (fun a i z => Or.inl z) yP)) cP ?_
        rw [yP.2 16 4 (by unfold rdS; omega), r4', bgE_s hbg])
    rw [eX9_compile_14]
    simp only [↓eX9_compile_15, ↓eX9_compile_18, ↓eX9_compile_21, ↓eX9_compile_22, ↓eX9_compile_25, ↓eX9_compile_28, ↓eX9_compile_29, hk18 hN, hk16 hN, e0, g0, Int.cast_ofNat_Int, kd_si, gr_si, ln_si, gi_same, gi_na, gi_ni, nl_i, nl_r, nl_j, nj_i, nj_l, nj_r, true_and, and_true, and_self, cs_0, cs_1, cs_2, cs_3, cs_4, ↓reduceIte, Nat.reduceLeDiff, Nat.reduceEqDiff, Nat.reduceAdd, Int.reduceLE, Int.reduceLT, Int.reduceEq, Int.reduceAdd, Int.reduceNeg, Int.reduceToNat, Int.toNat_natCast, ne_eq, not_false_eq_true, not_true_eq_false, or_true, true_or, or_false, false_or]
    exact adv
theorem x_compile {d : Nat} {M : mM} {Q : mV → mM → Prop} {u sz : Nat} {B : Nat → Int} (h : SH M) (hu : u = 21 ∨ u = 26) (hs : gi M 16 0 = sz) (h2 : sz ≤ 2000) (hB : gi M 17 = B)
    (hQ : ∀ N k, fin B sz k → YF (cpS u) M N → gi N 18 0 = rsF B sz k → gi N 18 1 = rsP B sz k → (rsF B sz k = 0 → gi N u 0 = (sgR (sg B sz k) : Nat) ∧ RU u N (sgR (sg B sz k)) (sgM (sg B sz k)) (sgA (sg B sz k))) → Q vj N) :
    CP (mc (d + 6)) 75 [vr (some 18), vr (some 16), vr (some u)] M Q := by
  have ku : kd M u = 10 := (wsh h hu).1
  simp only [↓cpX9_compile, ↓eX9_compile_0, ↓eX9_compile_1, ↓eX9_compile_4, ↓eX9_compile_5, ↓eX9_compile_8, ↓eX9_compile_9, ↓eX9_compile_12, ↓eX9_compile_13, ↓cpX9_startOver, ↓eX9_startOver_0, ↓eX9_startOver_1, ↓eX9_startOver_2, ↓eX9_startOver_5, ↓eX9_startOver_6, ↓eX9_startOver_7, ↓eX9_startOver_10, ↓eX9_startOver_11, ↓eX9_startOver_12, ↓eX9_startOver_15, ↓eX9_startOver_16, ↓eX9_startOver_17, ↓eX9_startOver_20, ↓eX9_startOver_21, ↓eX9_startOver_22, ↓eX9_startOver_25, ↓eX9_startOver_26, ↓eX9_startOver_27, ↓eX9_startOver_30, ↓eX9_startOver_31, ↓eX9_startOver_32, ↓eX9_startOver_35, ↓eX9_startOver_36, ↓eX9_startOver_37, ↓eX9_startOver_40, ↓cpX10_clear, ↓eX10_clear_0, ↓eX10_clear_1, ↓eX10_clear_2, ↓eX10_clear_5, ↓eX10_clear_6, ↓eX10_clear_7, ↓eX10_clear_10, ↓cpX8_rewind, ↓eX8_rewind_0, ↓eX8_rewind_1, ↓eX8_rewind_2, ↓eX8_rewind_5, hk18 h, hk16 h, ku, Int.cast_ofNat_Int, kd_si, gr_si, ln_si, gi_same, gi_na, gi_ni, nl_i, nl_r, nl_j, nj_i, nj_l, nj_r, true_and, and_true, and_self, cs_0, cs_1, cs_2, cs_3, cs_4, ↓reduceIte, Nat.reduceLeDiff, Nat.reduceEqDiff, Nat.reduceAdd, Int.reduceLE, Int.reduceLT, Int.reduceEq, Int.reduceAdd, Int.reduceNeg, Int.reduceToNat, Int.toNat_natCast, ne_eq, not_false_eq_true, not_true_eq_false, or_true, true_or, or_false, false_or]
  obtain ⟨N, hN⟩ : ∃ N, N = si (si (si (si (si (si (si (si (si (si (si M 18 0 0) 18 1 (-1)) 18 2 (-1)) 18 3 0) 18 4 0) 18 5 0) 18 6 0) 18 8 0) u 0 0) u 1 0) 16 4 0 := ⟨_, rfl⟩
  rw [← hN]
  have c18 : ∀ i, cpS u 18 i := fun i => Or.inl (Or.inl rfl)
  have cu : ∀ i, cpS u u i := fun i => Or.inl (Or.inr (Or.inr (Or.inl rfl)))
  have yN : YF (cpS u) M N := by
    rw [hN]
    exact YF_si (Or.inr ⟨rfl, by decide, by decide⟩) (YF_si (cu _) (YF_si (cu _) (YF_si (c18 _) (YF_si (c18 _) (YF_si (c18 _) (YF_si (c18 _) (YF_si (c18 _) (YF_si (c18 _) (YF_si (c18 _) (YF_si (c18 _) YF_refl))))))))))
  have u16 : u ≠ 16 := by omega
  have u18 : u ≠ 18 := by omega
  have n18 : ¬ 18 = u := by omega
  have n16 : ¬ 16 = u := by omega
  refine x_comp_loop h hu hs h2 hB hQ 401 0 N (by omega) (fun j hj => absurd hj (Nat.not_lt_zero j)) yN ?_ (by rw [hN, gi_same]; rfl)
  have g18 : ∀ i, gi N 18 i = gi (si (si (si (si (si (si (si (si M 18 0 0) 18 1 (-1)) 18 2 (-1)) 18 3 0) 18 4 0) 18 5 0) 18 6 0) 18 8 0) 18 i := fun i => by rw [hN, gi_na (by decide), gi_na n18, gi_na n18]
  refine ⟨⟨?_, ?_, ?_, ?_, ?_, ?_, ?_, fun z => absurd rfl z, ?_⟩, fun r hr => absurd hr (Nat.not_lt_zero r), ?_, trivial, 0, ?_, ?_, ?_, fun k hk => absurd hk (Nat.not_lt_zero k), fun e => rfl⟩
  · rw [g18]; simp only [Int.cast_ofNat_Int, kd_si, gr_si, ln_si, gi_same, gi_na, gi_ni, nl_i, nl_r, nl_j, nj_i, nj_l, nj_r, true_and, and_true, and_self, cs_0, cs_1, cs_2, cs_3, cs_4, ↓reduceIte, Nat.reduceLeDiff, Nat.reduceEqDiff, Nat.reduceAdd, Int.reduceLE, Int.reduceLT, Int.reduceEq, Int.reduceAdd, Int.reduceNeg, Int.reduceToNat, Int.toNat_natCast, ne_eq, not_false_eq_true, not_true_eq_false, or_true, true_or, or_false, false_or]
  · rw [g18]; simp only [Int.cast_ofNat_Int, kd_si, gr_si, ln_si, gi_same, gi_na, gi_ni, nl_i, nl_r, nl_j, nj_i, nj_l, nj_r, true_and, and_true, and_self, cs_0, cs_1, cs_2, cs_3, cs_4, ↓reduceIte, Nat.reduceLeDiff, Nat.reduceEqDiff, Nat.reduceAdd, Int.reduceLE, Int.reduceLT, Int.reduceEq, Int.reduceAdd, Int.reduceNeg, Int.reduceToNat, Int.toNat_natCast, ne_eq, not_false_eq_true, not_true_eq_false, or_true, true_or, or_false, false_or]
  · rw [g18]; simp only [Int.cast_ofNat_Int, kd_si, gr_si, ln_si, gi_same, gi_na, gi_ni, nl_i, nl_r, nl_j, nj_i, nj_l, nj_r, true_and, and_true, and_self, cs_0, cs_1, cs_2, cs_3, cs_4, ↓reduceIte, Nat.reduceLeDiff, Nat.reduceEqDiff, Nat.reduceAdd, Int.reduceLE, Int.reduceLT, Int.reduceEq, Int.reduceAdd, Int.reduceNeg, Int.reduceToNat, Int.toNat_natCast, ne_eq, not_false_eq_true, not_true_eq_false, or_true, true_or, or_false, false_or]
  · rw [g18]; first | (simp only [Int.cast_ofNat_Int, kd_si, gr_si, ln_si, gi_same, gi_na, gi_ni, nl_i, nl_r, nl_j, nj_i, nj_l, nj_r, true_and, and_true, and_self, cs_0, cs_1, cs_2, cs_3, cs_4, ↓reduceIte, Nat.reduceLeDiff, Nat.reduceEqDiff, Nat.reduceAdd, Int.reduceLE, Int.reduceLT, Int.reduceEq, Int.reduceAdd, Int.reduceNeg, Int.reduceToNat, Int.toNat_natCast, ne_eq, not_false_eq_true, not_true_eq_false, or_true, true_or, or_false, false_or]; done) | (simp only [Int.cast_ofNat_Int, kd_si, gr_si, ln_si, gi_same, gi_na, gi_ni, nl_i, nl_r, nl_j, nj_i, nj_l, nj_r, true_and, and_true, and_self, cs_0, cs_1, cs_2, cs_3, cs_4, ↓reduceIte, Nat.reduceLeDiff, Nat.reduceEqDiff, Nat.reduceAdd, Int.reduceLE, Int.reduceLT, Int.reduceEq, Int.reduceAdd, Int.reduceNeg, Int.reduceToNat, Int.toNat_natCast, ne_eq, not_false_eq_true, not_true_eq_false, or_true, true_or, or_false, false_or]; rfl)
  · rw [g18]; first | (simp only [Int.cast_ofNat_Int, kd_si, gr_si, ln_si, gi_same, gi_na, gi_ni, nl_i, nl_r, nl_j, nj_i, nj_l, nj_r, true_and, and_true, and_self, cs_0, cs_1, cs_2, cs_3, cs_4, ↓reduceIte, Nat.reduceLeDiff, Nat.reduceEqDiff, Nat.reduceAdd, Int.reduceLE, Int.reduceLT, Int.reduceEq, Int.reduceAdd, Int.reduceNeg, Int.reduceToNat, Int.toNat_natCast, ne_eq, not_false_eq_true, not_true_eq_false, or_true, true_or, or_false, false_or]; done) | (simp only [Int.cast_ofNat_Int, kd_si, gr_si, ln_si, gi_same, gi_na, gi_ni, nl_i, nl_r, nl_j, nj_i, nj_l, nj_r, true_and, and_true, and_self, cs_0, cs_1, cs_2, cs_3, cs_4, ↓reduceIte, Nat.reduceLeDiff, Nat.reduceEqDiff, Nat.reduceAdd, Int.reduceLE, Int.reduceLT, Int.reduceEq, Int.reduceAdd, Int.reduceNeg, Int.reduceToNat, Int.toNat_natCast, ne_eq, not_false_eq_true, not_true_eq_false, or_true, true_or, or_false, false_or]; rfl)
  · rw [g18]; first | (simp only [Int.cast_ofNat_Int, kd_si, gr_si, ln_si, gi_same, gi_na, gi_ni, nl_i, nl_r, nl_j, nj_i, nj_l, nj_r, true_and, and_true, and_self, cs_0, cs_1, cs_2, cs_3, cs_4, ↓reduceIte, Nat.reduceLeDiff, Nat.reduceEqDiff, Nat.reduceAdd, Int.reduceLE, Int.reduceLT, Int.reduceEq, Int.reduceAdd, Int.reduceNeg, Int.reduceToNat, Int.toNat_natCast, ne_eq, not_false_eq_true, not_true_eq_false, or_true, true_or, or_false, false_or]; done) | (simp only [Int.cast_ofNat_Int, kd_si, gr_si, ln_si, gi_same, gi_na, gi_ni, nl_i, nl_r, nl_j, nj_i, nj_l, nj_r, true_and, and_true, and_self, cs_0, cs_1, cs_2, cs_3, cs_4, ↓reduceIte, Nat.reduceLeDiff, Nat.reduceEqDiff, Nat.reduceAdd, Int.reduceLE, Int.reduceLT, Int.reduceEq, Int.reduceAdd, Int.reduceNeg, Int.reduceToNat, Int.toNat_natCast, ne_eq, not_false_eq_true, not_true_eq_false, or_true, true_or, or_false, false_or]; rfl)
  · rw [g18]; first | (simp only [Int.cast_ofNat_Int, kd_si, gr_si, ln_si, gi_same, gi_na, gi_ni, nl_i, nl_r, nl_j, nj_i, nj_l, nj_r, true_and, and_true, and_self, cs_0, cs_1, cs_2, cs_3, cs_4, ↓reduceIte, Nat.reduceLeDiff, Nat.reduceEqDiff, Nat.reduceAdd, Int.reduceLE, Int.reduceLT, Int.reduceEq, Int.reduceAdd, Int.reduceNeg, Int.reduceToNat, Int.toNat_natCast, ne_eq, not_false_eq_true, not_true_eq_false, or_true, true_or, or_false, false_or]; done) | (simp only [Int.cast_ofNat_Int, kd_si, gr_si, ln_si, gi_same, gi_na, gi_ni, nl_i, nl_r, nl_j, nj_i, nj_l, nj_r, true_and, and_true, and_self, cs_0, cs_1, cs_2, cs_3, cs_4, ↓reduceIte, Nat.reduceLeDiff, Nat.reduceEqDiff, Nat.reduceAdd, Int.reduceLE, Int.reduceLT, Int.reduceEq, Int.reduceAdd, Int.reduceNeg, Int.reduceToNat, Int.toNat_natCast, ne_eq, not_false_eq_true, not_true_eq_false, or_true, true_or, or_false, false_or]; rfl)
  · rw [hN, gi_na u16, gi_ni (by decide), gi_same]; rfl
  · rw [g18]; first | (simp only [Int.cast_ofNat_Int, kd_si, gr_si, ln_si, gi_same, gi_na, gi_ni, nl_i, nl_r, nl_j, nj_i, nj_l, nj_r, true_and, and_true, and_self, cs_0, cs_1, cs_2, cs_3, cs_4, ↓reduceIte, Nat.reduceLeDiff, Nat.reduceEqDiff, Nat.reduceAdd, Int.reduceLE, Int.reduceLT, Int.reduceEq, Int.reduceAdd, Int.reduceNeg, Int.reduceToNat, Int.toNat_natCast, ne_eq, not_false_eq_true, not_true_eq_false, or_true, true_or, or_false, false_or]; done) | (simp only [Int.cast_ofNat_Int, kd_si, gr_si, ln_si, gi_same, gi_na, gi_ni, nl_i, nl_r, nl_j, nj_i, nj_l, nj_r, true_and, and_true, and_self, cs_0, cs_1, cs_2, cs_3, cs_4, ↓reduceIte, Nat.reduceLeDiff, Nat.reduceEqDiff, Nat.reduceAdd, Int.reduceLE, Int.reduceLT, Int.reduceEq, Int.reduceAdd, Int.reduceNeg, Int.reduceToNat, Int.toNat_natCast, ne_eq, not_false_eq_true, not_true_eq_false, or_true, true_or, or_false, false_or]; rfl)
  · rw [hN, gi_na u16, gi_same]; rfl
  · exact Nat.zero_le _
  · exact Nat.zero_le _
/-- read of the class -/
theorem x_read {d : Nat} {M : mM} {Q : mV → mM → Prop} {u u' sz : Nat} {B : Nat → Int} (h : SH M) (h5 : gr M 0 5 = some u') (h6 : gr M 0 6 = some u) (hu : u = 21 ∨ u = 26) (hu' : u' = 21 ∨ u' = 26) (hs : gi M 16 0 = sz) (h2 : sz ≤ 2000) (hB : gi M 17 = B)
    (hQ : ∀ N k, fin B sz k → YF (cpS u) M N → gi N 18 0 = rsF B sz k → gi N 18 1 = rsP B sz k → (rsF B sz k = 0 → gi N u 0 = (sgR (sg B sz k) : Nat) ∧ RU u N (sgR (sg B sz k)) (sgM (sg B sz k)) (sgA (sg B sz k))) → Q (vi (rsF B sz k)) (if rsF B sz k = 0 then sr (sr (si N 16 0 0) 0 5 (some u)) 0 6 (some u') else si N 16 0 0)) :
    CP (mc (d + 7)) 104 [vr (some 0)] M Q := by
  have ku : kd M u = 10 := (wsh h hu).1
  have ku' : kd M u' = 10 := (wsh h hu').1
  have co := x_compile (d := d) (M := M) (u := u) (sz := sz) (B := B) (Q := fun v R => v = vj ∧ WP (mc (d + 6)) tX11_read 15 [vr (some 0), vj] [] R Q) h hu hs h2 hB (fun N k hf yN g0 g1 g2 => ⟨rfl, by
    have hN := YF_SH yN h
    have r5 : gr N 0 5 = some u' := by rw [YF_r yN]; exact h5
    have r6 : gr N 0 6 = some u := by rw [YF_r yN]; exact h6
    have kuN : kd N u = 10 := (wsh hN hu).1
    have kuN' : kd N u' = 10 := (wsh hN hu').1
    have q := hQ N k hf yN g0 g1 g2
    by_cases z : rsF B sz k = 0
    · rw [if_pos z, z] at q
      rw [z] at g0
      simp only [↓eX11_read_15, ↓eX11_read_16, ↓eX11_read_19, ↓eX11_read_20, ↓eX11_read_23, ↓eX11_read_24, ↓eX11_read_27, ↓eX11_read_30, ↓eX11_read_33, ↓eX11_read_34, ↓eX11_read_37, ↓eX11_read_38, ↓eX11_read_39, ↓eX11_read_40, ↓eX11_read_43, ↓eX11_read_46, ↓eX11_read_47, ↓eX11_read_48, ↓eX11_read_51, ↓eX11_read_52, ↓eX11_read_55, ↓eX11_read_58, hk0 hN, hr0_2 hN, hr0_3 hN, hk16 hN, hk18 hN, g0, r5, r6, kuN, kuN', kd_sr, gr_sr, gi_sr, Int.cast_ofNat_Int, kd_si, gr_si, ln_si, gi_same, gi_na, gi_ni, nl_i, nl_r, nl_j, nj_i, nj_l, nj_r, true_and, and_true, and_self, cs_0, cs_1, cs_2, cs_3, cs_4, ↓reduceIte, Nat.reduceLeDiff, Nat.reduceEqDiff, Nat.reduceAdd, Int.reduceLE, Int.reduceLT, Int.reduceEq, Int.reduceAdd, Int.reduceNeg, Int.reduceToNat, Int.toNat_natCast, ne_eq, not_false_eq_true, not_true_eq_false, or_true, true_or, or_false, false_or]
      exact q
    · rw [if_neg z] at q
      simp only [↓eX11_read_15, ↓eX11_read_16, ↓eX11_read_19, ↓eX11_read_20, ↓eX11_read_23, ↓eX11_read_24, ↓eX11_read_27, ↓eX11_read_30, ↓eX11_read_33, ↓eX11_read_34, ↓eX11_read_37, ↓eX11_read_38, ↓eX11_read_39, ↓eX11_read_40, ↓eX11_read_43, ↓eX11_read_46, ↓eX11_read_47, ↓eX11_read_48, ↓eX11_read_51, ↓eX11_read_52, ↓eX11_read_55, ↓eX11_read_58, hk0 hN, hr0_2 hN, hr0_3 hN, hk16 hN, hk18 hN, g0, z, Int.cast_ofNat_Int, kd_si, gr_si, ln_si, gi_same, gi_na, gi_ni, nl_i, nl_r, nl_j, nj_i, nj_l, nj_r, true_and, and_true, and_self, cs_0, cs_1, cs_2, cs_3, cs_4, ↓reduceIte, Nat.reduceLeDiff, Nat.reduceEqDiff, Nat.reduceAdd, Int.reduceLE, Int.reduceLT, Int.reduceEq, Int.reduceAdd, Int.reduceNeg, Int.reduceToNat, Int.toNat_natCast, ne_eq, not_false_eq_true, not_true_eq_false, or_true, true_or, or_false, false_or]
      exact q⟩)
  simp only [↓cpX11_read, ↓eX11_read_0, ↓eX11_read_1, ↓eX11_read_4, ↓eX11_read_5, ↓eX11_read_8, ↓eX11_read_9, ↓eX11_read_12, hk0 h, hr0_2 h, hr0_3 h, hk18 h, h6, Int.cast_ofNat_Int, kd_si, gr_si, ln_si, gi_same, gi_na, gi_ni, nl_i, nl_r, nl_j, nj_i, nj_l, nj_r, true_and, and_true, and_self, cs_0, cs_1, cs_2, cs_3, cs_4, ↓reduceIte, Nat.reduceLeDiff, Nat.reduceEqDiff, Nat.reduceAdd, Int.reduceLE, Int.reduceLT, Int.reduceEq, Int.reduceAdd, Int.reduceNeg, Int.reduceToNat, Int.toNat_natCast, ne_eq, not_false_eq_true, not_true_eq_false, or_true, true_or, or_false, false_or]
  exact co
