def gtS (B : mM) (p u a i : Nat) : Prop := a = u + 4 ∨ (a = p ∧ i ≤ 1) ∨ ∃ j, j < 14 ∧ gr B (p + 1) j = some a
/-- the cells of a plan's candidates -/
def PC (B N : mM) (p : Nat) : Prop := (∀ j a, j < 14 → gr N (p + 1) j = some a → (gr B (p + 1) j = some a ∨ nx B ≤ a) ∧ 88 ≤ a ∧ a < nx N ∧ kd N a = 0) ∧ ∀ i j a, i < 14 → j < 14 → gr N (p + 1) i = some a → gr N (p + 1) j = some a → i = j
def GI (B : mM) (p u : Nat) (v : Nat → Nat → Int) (sl : Nat → Nat) (c : Nat) (N : mM) : Prop := FRM (gtS B p u) (fun a => a = p + 1) B N ∧ nx N ≤ nx B + c ∧ gi N p 0 = c ∧ gi N p 1 = gi B 5 1 ∧ PC B N p ∧ ∀ j, j < c → ∃ a, gr N (p + 1) j = some a ∧ ∀ i, i ≤ 8 → gi N a i = v (sl j) i
theorem GI_put {B P : mM} {p u c a k : Nat} {v : Nat → Nat → Int} {sl : Nat → Nat} (hp : p = 31 ∨ p = 33) (hB : 88 ≤ nx B) (hc : c < 14) (hF : FRM (gtS B p u) (fun a => a = p + 1) B P) (hn : nx P ≤ nx B + (c + 1)) (h1 : gi P p 1 = gi B 5 1) (hP : PC B P p) (hJ : ∀ j, j < c → ∃ a, gr P (p + 1) j = some a ∧ ∀ i, i ≤ 8 → gi P a i = v (sl j) i) (ha : gr P (p + 1) c = some a) (hk : sl c = k) : GI B p u v sl (c + 1) (si (cdM P a (v k)) p 0 ((c + 1 : Nat) : Int)) := by
  obtain ⟨a1, a2, a3, a4⟩ := hP.1 c a hc ha
  have np : a ≠ p := by omega
  have sa : ∀ i, a < nx B → gtS B p u a i := fun i hi => by
    rcases a1 with w | w
    · exact Or.inr (Or.inr ⟨c, hc, w⟩)
    · omega
  refine ⟨FRM_si (fun _ => Or.inr (Or.inl ⟨rfl, by decide⟩)) (FRM_si (sa _) (FRM_si (sa _) (FRM_si (sa _) (FRM_si (sa _) (FRM_si (sa _) (FRM_si (sa _) (FRM_si (sa _) (FRM_si (sa _) (FRM_si (sa _) hF))))))))), hn, gi_same _ _ _ _, ?_, hP, fun j hj => ?_⟩
  · rw [gi_ni (by decide), gi_cdn (fun w => np w.symm)]; exact h1
  · by_cases q : j = c
    · subst q
      refine ⟨a, ha, fun i hi => ?_⟩
      rw [gi_na np, gi_cd hi, hk]
    · obtain ⟨b, b1, b2⟩ := hJ j (by omega)
      refine ⟨b, b1, fun i hi => ?_⟩
      have nb : b ≠ a := fun w => q (hP.2 j c a (by omega) hc (by rw [← w]; exact b1) ha)
      have nbp : b ≠ p := by have := (hP.1 j b (by omega) b1).2.1; omega
      rw [gi_na nbp, gi_cdn nb]
      exact b2 i hi
theorem GI_DF {B N P : mM} {p u c : Nat} {v : Nat → Nat → Int} {sl : Nat → Nat} (hp : p = 31 ∨ p = 33) (hu : u = 21 ∨ u = 26) (h : GI B p u v sl c N) (hD : DF (fun b => b = u + 4) N P) (hc : c ≤ 14) : GI B p u v sl c P := by
  obtain ⟨g1, g2, g3, g4, g5, g6⟩ := h
  refine ⟨FRM_trans g1 (DF_FRM hD) (fun a i _ w => Or.inl w) (fun a _ w => w.elim), by rw [DF_n hD]; exact g2, by rw [hD.2 _ _ (by omega)]; exact g3, by rw [hD.2 _ _ (by omega)]; exact g4, ⟨fun j a hj hr => ?_, fun i j a hi hj r1 r2 => ?_⟩, fun j hj => ?_⟩
  · rw [DF_r hD] at hr
    rw [DF_n hD, DF_k hD]
    exact g5.1 j a hj hr
  · rw [DF_r hD] at r1 r2
    exact g5.2 i j a hi hj r1 r2
  · obtain ⟨a, a1, a2⟩ := g6 j hj
    have := (g5.1 j a (by omega) a1).2.1
    refine ⟨a, by rw [DF_r hD]; exact a1, fun i hi => ?_⟩
    rw [hD.2 _ _ (by omega)]
    exact a2 i hi
section GATHER
variable {d n W p u R : Nat} {B : mM} {Q : mV → mM → Prop} {me : Nat → Env → Int} {mt : Nat → Int} {ld tl : Int}
theorem x_ga_loop (h : SH B) (hp : p = 31 ∨ p = 33) (hd : DAYC B n W) (hso : SO B) (h600 : cnt (dy B n) W 288 ≤ 600) (hlv : ∀ k, k < cnt (dy B n) W 288 → gi B 63 (sF (dy B n) W k).toNat = 0 ∨ gi B 63 (sF (dy B n) W k).toNat = 1) (hu : u = 21 ∨ u = 26) (hR : gi B u 0 = R) (hR20 : R ≤ 20) (hRU : RU u B R me mt) (hmt : ∀ r, r < R → b9 (mt r)) (hl : gi B 20 1 = ld) (ht : gi B 20 2 = tl) (hl6 : 0 ≤ ld ∧ ld ≤ 6) (ht6 : 0 ≤ tl ∧ tl ≤ 6) (hPC : PC B B p)
    (wv : Nat → Int) (hwv : ∀ k, k < cnt (dy B n) W 288 → wv k = wgh me mt (enP B (dy B n) W k) R 0 0) (q : Nat → Bool) (hq : ∀ k, k < cnt (dy B n) W 288 → q k = decide (wv k ≠ 0))
    (hQ1 : ∀ N, ctp q (cnt (dy B n) W 288) ≤ 14 → GI B p u (cfv B (dy B n) W ld tl wv) (sel q (cnt (dy B n) W 288)) (ctp q (cnt (dy B n) W 288)) N → Q (vi 1) N)
    (hQ0 : ∀ N, 14 < ctp q (cnt (dy B n) W 288) → GI B p u (cfv B (dy B n) W ld tl wv) (sel q (cnt (dy B n) W 288)) 14 N → Q (vi 0) N) :
    ∀ (r k : Nat) (N : mM) (a5 a6 : mV), nl a5 → k + r = cnt (dy B n) W 288 → ctp q k ≤ 14 → GI B p u (cfv B (dy B n) W ld tl wv) (sel q (cnt (dy B n) W 288)) (ctp q k) N → WP (mc (d + 3)) tX4_gather 16 [vr (some p), vr (some 5), vr (some u), vr (some 20), vi (k : Nat), a5, a6] [] N Q := by
  obtain ⟨w0, ⟨w1, w2, w3, w4⟩, ⟨w5, w6, w7, w8⟩, w9, w10, w11, w12⟩ := wsh h hu
  obtain ⟨k1, k2, k3, k4⟩ := CB_p (n := 0) (cl := fun _ => 0) h hp
  have h88 := h.2.2.2
  obtain ⟨d1, d2, d3⟩ := hd
  have hrf : ∀ q ∈ rfT, ¬ (q.1 = p + 1) := by
    rcases hp with rfl | rfl
    · decide
    · decide
  -- what stays
  have cell : ∀ (N : mM), FRM (gtS B p u) (fun a => a = p + 1) B N → ∀ a i, a < 88 → a ≠ u + 4 → a ≠ p → gi N a i = gi B a i := fun N hF a i ha h1 h2 => hF.1 a i (by omega) (fun w => by
    rcases w with w | ⟨w, -⟩ | ⟨j, hj, w⟩
    · exact h1 w
    · exact h2 w
    · have := (hPC.1 j a hj w).2.1; omega)
  have shw : ∀ (N : mM), FRM (gtS B p u) (fun a => a = p + 1) B N → ∀ k s, k < cnt (dy B n) W 288 → gr B 14 k = some s → shob B B (dy B n) W k s → 88 ≤ s ∧ s < nx B ∧ shob B N (dy B n) W k s := fun N hF k s hk hr hs => by
    obtain ⟨o1, o2, o3⟩ := hso.1 k s (by omega) hr
    have g : ∀ i, gi N s i = gi B s i := fun i => hF.1 s i o2 (fun w => by
      rcases w with w | ⟨w, -⟩ | ⟨j, hj, w⟩
      · omega
      · omega
      · have := (hPC.1 j s hj w).2.2.2; omega)
    refine ⟨o1, o2, ?_⟩
    unfold shob at hs ⊢
    simp only [g, (hF.2.2.1 s o2).1]
    exact hs
  intro r
  induction r with
  | zero =>
    intro k N a5 a6 n5 hr hc hG
    have e : k = cnt (dy B n) W 288 := by omega
    have hN := FRM_SH hG.1 h hrf
    have g5 : gi N 5 0 = (cnt (dy B n) W 288 : Nat) := by rw [cell N hG.1 5 0 (by decide) (by omega) (by omega)]; exact d1
    rw [eX4_gather_16]
    rw [e] at hG hc ⊢
    simp only [↓eX4_gather_18, ↓eX4_gather_19, ↓eX4_gather_22, ↓eX4_gather_130, ↓eX4_gather_131, hk5 hN, g5, Int.le_refl, Int.cast_ofNat_Int, kd_si, gr_si, ln_si, gi_same, gi_na, gi_ni, nl_i, nl_r, nl_j, nj_i, nj_l, nj_r, true_and, and_true, and_self, cs_0, cs_1, cs_2, cs_3, cs_4, ↓reduceIte, Nat.reduceLeDiff, Nat.reduceEqDiff, Nat.reduceAdd, Int.reduceLE, Int.reduceLT, Int.reduceEq, Int.reduceAdd, Int.reduceNeg, Int.reduceToNat, Int.toNat_natCast, ne_eq, not_false_eq_true, not_true_eq_false, or_true, true_or, or_false, false_or]
    exact hQ1 N hc hG
  | succ r ih =>
    intro k N a5 a6 n5 hr hc hG
    have hk : k < cnt (dy B n) W 288 := by omega
    have hN := FRM_SH hG.1 h hrf
    have g5 : gi N 5 0 = (cnt (dy B n) W 288 : Nat) := by rw [cell N hG.1 5 0 (by decide) (by omega) (by omega)]; exact d1
    have e1 : (((cnt (dy B n) W 288 : Nat) : Int) ≤ (k : Int)) = False := eq_false (by omega)
    have e2 : wr ((k : Int) + 1) = ((k + 1 : Nat) : Int) := by rw [wr_id (by omega) (by omega)]; omega
    obtain ⟨s, hs1, hs2⟩ := d3 k hk
    obtain ⟨s8, sn, hsN⟩ := shw N hG.1 k s hk hs1 hs2
    have r14 : gr N 14 k = some s := by rw [hG.1.2.1 14 k (by omega) (by omega)]; exact hs1
    have fa := fun (Q : mV → mM → Prop) => x_at (d := d + 2) (N := N) (Q := Q) (k := (k : Nat)) hN g5 h600
    have nn : 0 ≤ (k : Int) ∧ (k : Int) < (cnt (dy B n) W 288 : Nat) := by omega
    simp only [if_pos nn, Int.toNat_natCast, r14] at fa
    have ku : kd N u = 10 := by rw [(hG.1.2.2.1 u (by omega)).1]; exact w0
    have lv : gi N s 8 = 0 ∨ gi N s 8 = 1 := by
      obtain ⟨-, -, -, -, -, -, -, -, -, s8', -⟩ := hsN
      rw [s8']
      exact hlv k hk
    have gu : ∀ i, gi N (u + 2) i = gi B (u + 2) i := fun i => cell N hG.1 _ i (by omega) (by omega) (by omega)
    have gu3 : ∀ i, gi N (u + 3) i = gi B (u + 3) i := fun i => cell N hG.1 _ i (by omega) (by omega) (by omega)
    have gu1 : ∀ i, gi N (u + 1) i = gi B (u + 1) i := fun i => cell N hG.1 _ i (by omega) (by omega) (by omega)
    have rest : ∀ P, DF (fun b => b = u + 4) N P → WP (mc (d + 3)) tX4_gather 48 [vr (some p), vr (some 5), vr (some u), vr (some 20), vi (k : Nat), vr (some s), a6] [vi (wv k)] P Q := fun P dP => by
      have hGP := GI_DF hp hu hG dP hc
      have hP := FRM_SH hGP.1 h hrf
      have b9w : b9 (wv k) := by rw [hwv k hk]; exact wgh_bd hmt R 0 0 (by omega) ⟨by decide, by decide⟩
      have b0 := b9w.1
      by_cases z : wv k = 0
      · have qk : ¬ q k = true := by rw [hq k hk]; simp [z]
        have cc : ctp q (k + 1) = ctp q k := by rw [ctp, if_neg qk]; rfl
        have nxt := ih (k + 1) P (vr (some s)) (vi (wv k)) (nlR _) (by omega) (by rw [cc]; exact hc) (by rw [cc]; exact hGP)
        rw [z] at nxt ⊢
        simp only [↓eX4_gather_48, ↓eX4_gather_50, ↓eX4_gather_52, ↓eX4_gather_124, ↓eX4_gather_127, e2, Int.le_refl, Int.cast_ofNat_Int, kd_si, gr_si, ln_si, gi_same, gi_na, gi_ni, nl_i, nl_r, nl_j, nj_i, nj_l, nj_r, true_and, and_true, and_self, cs_0, cs_1, cs_2, cs_3, cs_4, ↓reduceIte, Nat.reduceLeDiff, Nat.reduceEqDiff, Nat.reduceAdd, Int.reduceLE, Int.reduceLT, Int.reduceEq, Int.reduceAdd, Int.reduceNeg, Int.reduceToNat, Int.toNat_natCast, ne_eq, not_false_eq_true, not_true_eq_false, or_true, true_or, or_false, false_or]
        exact nxt
      · have qk : q k = true := by rw [hq k hk]; exact decide_eq_true z
        have cc : ctp q (k + 1) = ctp q k + 1 := by rw [ctp, if_pos qk]
        have z' : (wv k ≤ 0) = False := eq_false (by omega)
        have kP : kd P p = 4 := by rw [(hGP.1.2.2.1 p (by omega)).1]; exact k1
        have rP : gr P p 5 = some (p + 1) := by rw [hGP.1.2.1 p 5 (by omega) (by omega)]; exact k2
        have k3P : kd P (p + 1) = 17 := by rw [(hGP.1.2.2.1 (p + 1) (by omega)).1]; exact k3
        have l3P : ln P (p + 1) = 14 := by rw [(hGP.1.2.2.1 (p + 1) (by omega)).2]; exact k4
        have gP0 := hGP.2.2.1
        have up := ctp_up (q := q) (show k + 1 ≤ cnt (dy B n) W 288 by omega)
        by_cases y : ctp q k = 14
        · have y' : (((ctp q k : Nat) : Int) < 14) = False := eq_false (by omega)
          have fin := hQ0 P (by omega) (by rw [← y]; exact hGP)
          simp only [↓eX4_gather_48, ↓eX4_gather_50, ↓eX4_gather_52, ↓eX4_gather_55, ↓eX4_gather_56, ↓eX4_gather_59, ↓eX4_gather_60, ↓eX4_gather_63, ↓eX4_gather_64, ↓eX4_gather_67, ↓eX4_gather_68, z', kP, rP, k3P, l3P, gP0, y', Int.cast_ofNat_Int, kd_si, gr_si, ln_si, gi_same, gi_na, gi_ni, nl_i, nl_r, nl_j, nj_i, nj_l, nj_r, true_and, and_true, and_self, cs_0, cs_1, cs_2, cs_3, cs_4, ↓reduceIte, Nat.reduceLeDiff, Nat.reduceEqDiff, Nat.reduceAdd, Int.reduceLE, Int.reduceLT, Int.reduceEq, Int.reduceAdd, Int.reduceNeg, Int.reduceToNat, Int.toNat_natCast, ne_eq, not_false_eq_true, not_true_eq_false, or_true, true_or, or_false, false_or]
          exact fin
        · have c14 : ctp q k < 14 := by omega
          have y' : (((ctp q k : Nat) : Int) < 14) = True := eq_true (by omega)
          have y0 : (0 ≤ ((ctp q k : Nat) : Int)) = True := eq_true (by omega)
          have e3 : wr (((ctp q k : Nat) : Int) + 1) = ((ctp q k + 1 : Nat) : Int) := by rw [wr_id (by omega) (by omega)]; omega
          have sk : sel q (cnt (dy B n) W 288) (ctp q k) = k := sel_k qk hk
          have h8N : nx B ≤ nx P := hGP.1.2.2.2.1
          -- the filled candidate, and the next turn
          have fill : ∀ (P1 : mM) (a : Nat), FRM (gtS B p u) (fun a => a = p + 1) B P1 → nx P1 ≤ nx B + (ctp q k + 1) → gi P1 p 0 = (ctp q k : Nat) → gi P1 p 1 = gi B 5 1 → PC B P1 p → (∀ j, j < ctp q k → ∃ a, gr P1 (p + 1) j = some a ∧ ∀ i, i ≤ 8 → gi P1 a i = cfv B (dy B n) W ld tl wv (sel q (cnt (dy B n) W 288) j) i) → gr P1 (p + 1) (ctp q k) = some a → WP (mc (d + 3)) tX4_gather 97 [vr (some p), vr (some 5), vr (some u), vr (some 20), vi (k : Nat), vr (some s), vi (wv k)] [] P1 Q := fun P1 a f1 f2 f3 f4 f5 f6 f7 => by
            obtain ⟨a1, a2, a3, a4⟩ := f5.1 _ a c14 f7
            have hS1 := (shw P1 f1 k s hk hs1 hs2).2.2
            have kp1 : kd P1 p = 4 := by rw [(f1.2.2.1 p (by omega)).1]; exact k1
            have rp1 : gr P1 p 5 = some (p + 1) := by rw [f1.2.1 p 5 (by omega) (by omega)]; exact k2
            have k31 : kd P1 (p + 1) = 17 := by rw [(f1.2.2.1 (p + 1) (by omega)).1]; exact k3
            have l31 : ln P1 (p + 1) = 14 := by rw [(f1.2.2.1 (p + 1) (by omega)).2]; exact k4
            have k201 : kd P1 20 = 5 := by rw [(f1.2.2.1 20 (by omega)).1]; exact hk20 h
            have g1 : gi P1 20 1 = ld := by rw [cell P1 f1 20 1 (by decide) (by omega) (by omega)]; exact hl
            have g2 : gi P1 20 2 = tl := by rw [cell P1 f1 20 2 (by decide) (by omega) (by omega)]; exact ht
            have ff' := fun (Q : mV → mM → Prop) => x_fillC (d := d + 2) (B := B) (N := P1) (Q := Q) (a := a) (s := s) (w := wv k) k201 a4 hS1 g1 g2 hl6 ht6 hk a2 wv rfl
            have np : p ≠ a := by omega
            have gq : gi (cdM P1 a (cfv B (dy B n) W ld tl wv k)) p 0 = (ctp q k : Nat) := by rw [gi_cdn np]; exact f3
            have kq : ∀ b, kd (cdM P1 a (cfv B (dy B n) W ld tl wv k)) b = kd P1 b := fun b => rfl
            have nxt := ih (k + 1) _ (vr (some s)) (vi (wv k)) (nlR _) (by omega) (by rw [cc]; omega) (by rw [cc]; exact GI_put hp (by omega) c14 f1 f2 f4 f5 f6 f7 sk)
            simp only [↓eX4_gather_97, ↓eX4_gather_98, ↓eX4_gather_101, ↓eX4_gather_102, ↓eX4_gather_105, ↓eX4_gather_106, ↓eX4_gather_108, ↓eX4_gather_110, ↓eX4_gather_111, ↓eX4_gather_114, ↓eX4_gather_115, ↓eX4_gather_116, ↓eX4_gather_119, ↓eX4_gather_120, ↓eX4_gather_121, ↓eX4_gather_124, ↓eX4_gather_127, kp1, rp1, k31, l31, f3, y0, y', f7, a4, ↓ff', kq, gq, e2, e3, Int.cast_ofNat_Int, kd_si, gr_si, ln_si, gi_same, gi_na, gi_ni, nl_i, nl_r, nl_j, nj_i, nj_l, nj_r, true_and, and_true, and_self, cs_0, cs_1, cs_2, cs_3, cs_4, ↓reduceIte, Nat.reduceLeDiff, Nat.reduceEqDiff, Nat.reduceAdd, Int.reduceLE, Int.reduceLT, Int.reduceEq, Int.reduceAdd, Int.reduceNeg, Int.reduceToNat, Int.toNat_natCast, ne_eq, not_false_eq_true, not_true_eq_false, or_true, true_or, or_false, false_or]
            exact nxt
          cases hr2 : gr P (p + 1) (ctp q k) with
          | some a =>
            have fin := fill P a hGP.1 (by have := hGP.2.1; omega) gP0 hGP.2.2.2.1 hGP.2.2.2.2.1 hGP.2.2.2.2.2 hr2
            simp only [↓eX4_gather_48, ↓eX4_gather_50, ↓eX4_gather_52, ↓eX4_gather_55, ↓eX4_gather_56, ↓eX4_gather_59, ↓eX4_gather_60, ↓eX4_gather_63, ↓eX4_gather_64, ↓eX4_gather_67, ↓eX4_gather_68, ↓eX4_gather_69, ↓eX4_gather_70, ↓eX4_gather_73, ↓eX4_gather_74, ↓eX4_gather_77, ↓eX4_gather_78, z', kP, rP, k3P, l3P, gP0, y', y0, hr2, reduceCtorEq, Int.cast_ofNat_Int, kd_si, gr_si, ln_si, gi_same, gi_na, gi_ni, nl_i, nl_r, nl_j, nj_i, nj_l, nj_r, true_and, and_true, and_self, cs_0, cs_1, cs_2, cs_3, cs_4, ↓reduceIte, Nat.reduceLeDiff, Nat.reduceEqDiff, Nat.reduceAdd, Int.reduceLE, Int.reduceLT, Int.reduceEq, Int.reduceAdd, Int.reduceNeg, Int.reduceToNat, Int.toNat_natCast, ne_eq, not_false_eq_true, not_true_eq_false, or_true, true_or, or_false, false_or]
            exact fin
          | none =>
            have nP : p + 1 ≠ nx P := by omega
            have nP0 : p ≠ nx P := by omega
            have q1 : (p = nx P) = False := eq_false nP0
            have q2 : (p + 1 = nx P) = False := eq_false nP
            have hPP := hGP.2.2.2.2.1
            have fin := fill (sr (al P 0 0 18) (p + 1) (ctp q k) (some (nx P))) (nx P) (FRM_sr (fun _ => rfl) (FRM_al (by decide) hGP.1)) (by have := hGP.2.1; show nx P + 1 ≤ _; omega) (by rw [gi_sr, gi_al, if_neg nP0]; exact gP0) (by rw [gi_sr, gi_al, if_neg nP0]; exact hGP.2.2.2.1) (by
              refine ⟨fun j a hj hra => ?_, fun i j a hi hj ri rj => ?_⟩
              · rw [gr_sr] at hra
                by_cases x : j = ctp q k
                · rw [if_pos ⟨rfl, x⟩] at hra
                  cases hra
                  refine ⟨Or.inr h8N, by omega, Nat.lt_succ_self _, ?_⟩
                  rw [kd_sr, kd_al, if_pos rfl]
                · rw [if_neg (fun w => x w.2), gr_al, if_neg nP] at hra
                  obtain ⟨b1, b2, b3, b4⟩ := hPP.1 j a hj hra
                  refine ⟨b1, b2, Nat.lt_succ_of_lt b3, ?_⟩
                  rw [kd_sr, kd_al, if_neg (by omega)]; exact b4
              · rw [gr_sr] at ri rj
                by_cases x : i = ctp q k
                · by_cases x' : j = ctp q k
                  · rw [x, x']
                  · rw [if_pos ⟨rfl, x⟩] at ri
                    cases ri
                    rw [if_neg (fun w => x' w.2), gr_al, if_neg nP] at rj
                    have := (hPP.1 j _ hj rj).2.2.1
                    omega
                · rw [if_neg (fun w => x w.2), gr_al, if_neg nP] at ri
                  by_cases x' : j = ctp q k
                  · rw [if_pos ⟨rfl, x'⟩] at rj
                    cases rj
                    have := (hPP.1 i _ hi ri).2.2.1
                    omega
                  · rw [if_neg (fun w => x' w.2), gr_al, if_neg nP] at rj
                    exact hPP.2 i j a hi hj ri rj) (fun j hj => by
              obtain ⟨b, b1, b2⟩ := hGP.2.2.2.2.2 j hj
              have b3 := (hPP.1 j b (by omega) b1).2.2.1
              refine ⟨b, ?_, fun i hi => ?_⟩
              · rw [gr_sr, if_neg (by omega), gr_al, if_neg nP]; exact b1
              · rw [gi_sr, gi_al, if_neg (by omega)]; exact b2 i hi) (by rw [gr_sr, if_pos ⟨rfl, rfl⟩])
            simp only [↓eX4_gather_48, ↓eX4_gather_50, ↓eX4_gather_52, ↓eX4_gather_55, ↓eX4_gather_56, ↓eX4_gather_59, ↓eX4_gather_60, ↓eX4_gather_63, ↓eX4_gather_64, ↓eX4_gather_67, ↓eX4_gather_68, ↓eX4_gather_69, ↓eX4_gather_70, ↓eX4_gather_73, ↓eX4_gather_74, ↓eX4_gather_77, ↓eX4_gather_78, ↓eX4_gather_81, ↓eX4_gather_82, ↓eX4_gather_85, ↓eX4_gather_86, ↓eX4_gather_89, ↓eX4_gather_92, ↓eX4_gather_93, ↓eX4_gather_96, ↓cpX0_init, ↓eX0_init_0, ↓eX0_init_1, ↓eX0_init_4, kd_al, gr_al, ln_al, gi_al, kd_sr, q1, q2, z', kP, rP, k3P, l3P, gP0, y', y0, hr2, Int.cast_ofNat_Int, kd_si, gr_si, ln_si, gi_same, gi_na, gi_ni, nl_i, nl_r, nl_j, nj_i, nj_l, nj_r, true_and, and_true, and_self, cs_0, cs_1, cs_2, cs_3, cs_4, ↓reduceIte, Nat.reduceLeDiff, Nat.reduceEqDiff, Nat.reduceAdd, Int.reduceLE, Int.reduceLT, Int.reduceEq, Int.reduceAdd, Int.reduceNeg, Int.reduceToNat, Int.toNat_natCast, ne_eq, not_false_eq_true, not_true_eq_false, or_true, true_or, or_false, false_or]
            exact fin
    have wg := x_weigh (d := d) (M := N) (Q := fun v P => v ≠ vj ∧ WP (mc (d + 3)) tX4_gather 48 [vr (some p), vr (some 5), vr (some u), vr (some 20), vi (k : Nat), vr (some s), a6] [v] P Q) (u := u) (a := s) (R := R) (me := me) (mt := mt) hN hu hsN.1 s8 lv (by rw [cell N hG.1 u 0 (by omega) (by omega) (by omega)]; exact hR) hR20 (RU_f gu gu3 (fun i _ => gu1 i) hRU) (fun P dP => ⟨(fun x => by cases x), by
      rw [enC_P hsN, ← hwv k hk]
      exact rest P dP⟩)
    rw [eX4_gather_16]
    simp only [↓eX4_gather_18, ↓eX4_gather_19, ↓eX4_gather_22, ↓eX4_gather_25, ↓eX4_gather_26, ↓eX4_gather_28, ↓eX4_gather_31, ↓eX4_gather_33, ↓eX4_gather_35, ↓eX4_gather_38, ↓eX4_gather_39, ↓eX4_gather_42, ↓eX4_gather_43, ↓eX4_gather_45, n5, hk5 hN, ku, g5, e1, ↓fa, reduceCtorEq, Int.cast_ofNat_Int, kd_si, gr_si, ln_si, gi_same, gi_na, gi_ni, nl_i, nl_r, nl_j, nj_i, nj_l, nj_r, true_and, and_true, and_self, cs_0, cs_1, cs_2, cs_3, cs_4, ↓reduceIte, Nat.reduceLeDiff, Nat.reduceEqDiff, Nat.reduceAdd, Int.reduceLE, Int.reduceLT, Int.reduceEq, Int.reduceAdd, Int.reduceNeg, Int.reduceToNat, Int.toNat_natCast, ne_eq, not_false_eq_true, not_true_eq_false, or_true, true_or, or_false, false_or]
    exact wg
theorem x_gather (h : SH B) (hp : p = 31 ∨ p = 33) (hd : DAYC B n W) (hso : SO B) (h600 : cnt (dy B n) W 288 ≤ 600) (hlv : ∀ k, k < cnt (dy B n) W 288 → gi B 63 (sF (dy B n) W k).toNat = 0 ∨ gi B 63 (sF (dy B n) W k).toNat = 1) (hu : u = 21 ∨ u = 26) (hR : gi B u 0 = R) (hR20 : R ≤ 20) (hRU : RU u B R me mt) (hmt : ∀ r, r < R → b9 (mt r)) (hl : gi B 20 1 = ld) (ht : gi B 20 2 = tl) (hl6 : 0 ≤ ld ∧ ld ≤ 6) (ht6 : 0 ≤ tl ∧ tl ≤ 6) (hPC : PC B B p)
    (wv : Nat → Int) (hwv : ∀ k, k < cnt (dy B n) W 288 → wv k = wgh me mt (enP B (dy B n) W k) R 0 0) (q : Nat → Bool) (hq : ∀ k, k < cnt (dy B n) W 288 → q k = decide (wv k ≠ 0))
    (hQ1 : ∀ N, ctp q (cnt (dy B n) W 288) ≤ 14 → GI B p u (cfv B (dy B n) W ld tl wv) (sel q (cnt (dy B n) W 288)) (ctp q (cnt (dy B n) W 288)) N → Q (vi 1) N)
    (hQ0 : ∀ N, 14 < ctp q (cnt (dy B n) W 288) → GI B p u (cfv B (dy B n) W ld tl wv) (sel q (cnt (dy B n) W 288)) 14 N → Q (vi 0) N) : CP (mc (d + 4)) 36 [vr (some p), vr (some 5), vr (some u), vr (some 20)] B Q := by
  obtain ⟨k1, -⟩ := CB_p (n := 0) (cl := fun _ => 0) h hp
  have k5 := hk5 h
  have h88 := h.2.2.2
  have n5 : (5 : Nat) ≠ p := by omega
  have g51 : gi (si B p 0 0) 5 1 = gi B 5 1 := gi_na n5
  have lp := x_ga_loop (d := d) h hp hd hso h600 hlv hu hR hR20 hRU hmt hl ht hl6 ht6 hPC wv hwv q hq hQ1 hQ0 (cnt (dy B n) W 288) 0 (si (si B p 0 0) p 1 (gi B 5 1)) vj vj nlJ (by omega) (Nat.zero_le _) ⟨FRM_si (fun _ => Or.inr (Or.inl ⟨rfl, by decide⟩)) (FRM_si (fun _ => Or.inr (Or.inl ⟨rfl, by decide⟩)) FRM_refl), Nat.le_refl _, by rw [gi_ni (by decide), gi_same]; rfl, gi_same _ _ _ _, hPC, fun j hj => absurd hj (Nat.not_lt_zero j)⟩
  simp only [↓cpX4_gather, ↓eX4_gather_0, ↓eX4_gather_1, ↓eX4_gather_2, ↓eX4_gather_5, ↓eX4_gather_6, ↓eX4_gather_7, ↓eX4_gather_10, ↓eX4_gather_13, ↓eX4_gather_14, k1, k5, g51, Int.cast_ofNat_Int, kd_si, gr_si, ln_si, gi_same, gi_na, gi_ni, nl_i, nl_r, nl_j, nj_i, nj_l, nj_r, true_and, and_true, and_self, cs_0, cs_1, cs_2, cs_3, cs_4, ↓reduceIte, Nat.reduceLeDiff, Nat.reduceEqDiff, Nat.reduceAdd, Int.reduceLE, Int.reduceLT, Int.reduceEq, Int.reduceAdd, Int.reduceNeg, Int.reduceToNat, Int.toNat_natCast, ne_eq, not_false_eq_true, not_true_eq_false, or_true, true_or, or_false, false_or]
  exact lp
end GATHER
