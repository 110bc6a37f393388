/-! ===== the pair holds ===== -/
theorem y_holdsR {d : Nat} {M : mM} {Q : mV → mM → Prop} {sd R : Nat} {r k n : Int} (h : SH M) (hsd : sd ≤ 1) (h18 : gi M 35 18 = sd) (h43 : gi M 43 sd = R) (q : ¬ (0 ≤ r ∧ r < R)) : CP (mc (d + 1)) 170 [vr (some 35), vi r, vi k, vi n] M Q = Q (vi (-1)) M := by
  have s0 : (0 ≤ (sd : Int)) = True := eq_true (by omega)
  have s1 : ((sd : Int) < 2) = True := eq_true (by omega)
  by_cases q1 : r < 0
  · simp only [↓cpX12_holds, ↓eX12_holds_0, ↓eX12_holds_1, ↓eX12_holds_4, ↓eX12_holds_5, ↓eX12_holds_6, ↓eX12_holds_9, ↓eX12_holds_10, ↓eX12_holds_13, ↓eX12_holds_14, ↓eX12_holds_17, ↓eX12_holds_18, ↓eX12_holds_19, ↓eX12_holds_22, ↓eX12_holds_25, ↓eX12_holds_26, ↓eX12_holds_29, ↓eX12_holds_30, q1, Int.cast_ofNat_Int, kd_si, gr_si, ln_si, gi_same, gi_na, gi_ni, nl_i, nl_r, nl_j, nj_i, nj_l, nj_r, true_and, and_true, and_self, cs_0, cs_1, cs_2, cs_3, cs_4, ↓reduceIte, Nat.reduceLeDiff, Nat.reduceEqDiff, Nat.reduceAdd, Int.reduceLE, Int.reduceLT, Int.reduceEq, Int.reduceAdd, Int.reduceNeg, Int.reduceToNat, Int.toNat_natCast, ne_eq, not_false_eq_true, not_true_eq_false, or_true, true_or, or_false, false_or]
  · have q2 : ((R : Int) ≤ r) = True := eq_true (by omega)
    simp only [↓cpX12_holds, ↓eX12_holds_0, ↓eX12_holds_1, ↓eX12_holds_4, ↓eX12_holds_5, ↓eX12_holds_6, ↓eX12_holds_9, ↓eX12_holds_10, ↓eX12_holds_13, ↓eX12_holds_14, ↓eX12_holds_17, ↓eX12_holds_18, ↓eX12_holds_19, ↓eX12_holds_22, ↓eX12_holds_25, ↓eX12_holds_26, ↓eX12_holds_29, ↓eX12_holds_30, hk35 h, hr35_20 h, hk43 h, hl43 h, h18, h43, s0, s1, q1, q2, Int.cast_ofNat_Int, kd_si, gr_si, ln_si, gi_same, gi_na, gi_ni, nl_i, nl_r, nl_j, nj_i, nj_l, nj_r, true_and, and_true, and_self, cs_0, cs_1, cs_2, cs_3, cs_4, ↓reduceIte, Nat.reduceLeDiff, Nat.reduceEqDiff, Nat.reduceAdd, Int.reduceLE, Int.reduceLT, Int.reduceEq, Int.reduceAdd, Int.reduceNeg, Int.reduceToNat, Int.toNat_natCast, ne_eq, not_false_eq_true, not_true_eq_false, or_true, true_or, or_false, false_or]
theorem y_holdsK {d : Nat} {M : mM} {Q : mV → mM → Prop} {sd R : Nat} {r k n : Int} (h : SH M) (hsd : sd ≤ 1) (h18 : gi M 35 18 = sd) (h43 : gi M 43 sd = R) (q : ¬ ((0 ≤ n ∧ n ≤ gi M 35 37) ∧ 0 ≤ k)) : CP (mc (d + 2)) 170 [vr (some 35), vi r, vi k, vi n] M Q = Q (vi (-1)) M := by
  by_cases q0 : 0 ≤ r ∧ r < R
  · have s0 : (0 ≤ (sd : Int)) = True := eq_true (by omega)
    have s1 : ((sd : Int) < 2) = True := eq_true (by omega)
    have q1 : (r < 0) = False := eq_false (by omega)
    have q2 : ((R : Int) ≤ r) = False := eq_false (by omega)
    have fy := fun (Q : mV → mM → Prop) => y_isKnown (d := d) (M := M) (Q := Q) (n := n) h
    by_cases q3 : 0 ≤ n ∧ n ≤ gi M 35 37
    · simp only [if_pos q3] at fy
      have q4 : (0 ≤ k) = False := eq_false (fun w => q ⟨q3, w⟩)
      simp only [↓cpX12_holds, ↓eX12_holds_0, ↓eX12_holds_1, ↓eX12_holds_4, ↓eX12_holds_5, ↓eX12_holds_6, ↓eX12_holds_9, ↓eX12_holds_10, ↓eX12_holds_13, ↓eX12_holds_14, ↓eX12_holds_17, ↓eX12_holds_18, ↓eX12_holds_19, ↓eX12_holds_22, ↓eX12_holds_25, ↓eX12_holds_26, ↓eX12_holds_29, ↓eX12_holds_30, hk35 h, hr35_20 h, hk43 h, hl43 h, h18, h43, s0, s1, q1, q2, q4, ↓fy, Int.cast_ofNat_Int, kd_si, gr_si, ln_si, gi_same, gi_na, gi_ni, nl_i, nl_r, nl_j, nj_i, nj_l, nj_r, true_and, and_true, and_self, cs_0, cs_1, cs_2, cs_3, cs_4, ↓reduceIte, Nat.reduceLeDiff, Nat.reduceEqDiff, Nat.reduceAdd, Int.reduceLE, Int.reduceLT, Int.reduceEq, Int.reduceAdd, Int.reduceNeg, Int.reduceToNat, Int.toNat_natCast, ne_eq, not_false_eq_true, not_true_eq_false, or_true, true_or, or_false, false_or]
    · simp only [if_neg q3] at fy
      simp only [↓cpX12_holds, ↓eX12_holds_0, ↓eX12_holds_1, ↓eX12_holds_4, ↓eX12_holds_5, ↓eX12_holds_6, ↓eX12_holds_9, ↓eX12_holds_10, ↓eX12_holds_13, ↓eX12_holds_14, ↓eX12_holds_17, ↓eX12_holds_18, ↓eX12_holds_19, ↓eX12_holds_22, ↓eX12_holds_25, ↓eX12_holds_26, ↓eX12_holds_29, ↓eX12_holds_30, hk35 h, hr35_20 h, hk43 h, hl43 h, h18, h43, s0, s1, q1, q2, ↓fy, Int.cast_ofNat_Int, kd_si, gr_si, ln_si, gi_same, gi_na, gi_ni, nl_i, nl_r, nl_j, nj_i, nj_l, nj_r, true_and, and_true, and_self, cs_0, cs_1, cs_2, cs_3, cs_4, ↓reduceIte, Nat.reduceLeDiff, Nat.reduceEqDiff, Nat.reduceAdd, Int.reduceLE, Int.reduceLT, Int.reduceEq, Int.reduceAdd, Int.reduceNeg, Int.reduceToNat, Int.toNat_natCast, ne_eq, not_false_eq_true, not_true_eq_false, or_true, true_or, or_false, false_or]
  · exact y_holdsR (d := d + 1) h hsd h18 h43 q0
theorem p_holds (r k n : Int) : PAIR 116 170 [vi r, vi k, vi n] := fun M hI => by
  have h := hI.1.1
  obtain ⟨⟨a1, a2, a3⟩, -, ⟨a7, a8, a9⟩, -⟩ := hI.1.2.1
  by_cases q : 0 ≤ n ∧ n ≤ gi M 1 2
  · obtain ⟨n', rfl⟩ : ∃ k : Nat, n = k := ⟨n.toNat, by omega⟩
    have fnd := x_findG (d := 12) (n := n') (M := M) (k := k) (Q := fun v N => v ≠ vj ∧ WP (mc 18) tX11_holds 6 [vr (some 0), vi r, vi k, vi n', vj] [v] N (fun v N => ∃ z, v = vi z ∧ CP (mc 19) 170 [vr (some 35), vi r, vi k, vi n'] N (fun w R => w = vi z ∧ INV R ∧ GROW M R))) hI.1 q.2 (fun N W hF tN hW n51 n52 dN hx => ⟨(fun x => by cases x), by
      have hN := tN.1
      have hf := tN.2.2.2.1
      have rN := REST_day h hF hI.2
      obtain ⟨e12, e10⟩ := day_told h hF
      have i1 := tN.2.1
      have i37 := i1.2.2.1
      have hn37 : (n' : Int) ≤ gi N 35 37 := by omega
      have gN : GROW M N := GROW_FRM hF (by omega)
      have c6 := cnt_600 hf hn37 W
      obtain ⟨u, u', sd, Ru, c0, me, mt, w5, w6, wu, wsd, w18, wu0, wR, wRU, w43, wc, wM, wfr, wmt⟩ := rN.2.2.1
      have hu : u = 21 ∨ u = 26 := by omega
      have ku := (wsh hN hu).1
      have s0 : (0 ≤ (sd : Int)) = True := eq_true (by omega)
      have s1 : ((sd : Int) < 2) = True := eq_true (by omega)
      -- both say no
      have no : ∀ z : mV, z = vi (-1) → CP (mc 19) 170 [vr (some 35), vi r, vi k, vi (n' : Nat)] N (fun w R => w = vi (-1) ∧ INV R ∧ GROW M R) → ∃ y, z = vi y ∧ CP (mc 19) 170 [vr (some 35), vi r, vi k, vi (n' : Nat)] N (fun w R => w = vi y ∧ INV R ∧ GROW M R) := fun z hz hc => ⟨-1, hz, hc⟩
      by_cases qr : 0 ≤ r ∧ r < Ru
      · obtain ⟨r', rfl⟩ : ∃ j : Nat, r = j := ⟨r.toNat, by omega⟩
        have q1 : (((r' : Nat) : Int) < 0) = False := eq_false (by omega)
        have q2 : ((Ru : Int) ≤ ((r' : Nat) : Int)) = False := eq_false (by omega)
        have q2' : (((r' : Nat) : Int) < (Ru : Int)) = True := eq_true (by omega)
        by_cases z : 0 ≤ k ∧ k < (cnt (dy N n') W 288 : Nat)
        · obtain ⟨k', rfl⟩ : ∃ j : Nat, k = j := ⟨k.toNat, by omega⟩
          have hk : k' < cnt (dy N n') W 288 := by omega
          obtain ⟨a, ga, hs⟩ := dN.2.2 k' hk
          have o1 := tN.2.2.2.2.2.1.1.1 k' a (by omega) ga
          rw [if_pos z, Int.toNat_natCast, ga]
          have lv : gi N a 8 = 0 ∨ gi N a 8 = 1 := by
            obtain ⟨-, -, -, -, -, -, -, -, -, s8, -⟩ := hs
            rw [s8]
            obtain ⟨f, e, f1, f2, -⟩ := sF_n hf hn37 hk
            rw [e, Int.toNat_natCast]
            exact ((hf f (by omega)).2.2.1 f2).2.2.2.2
          have met := x_isMet (d := 16) (M := N) (u := u) (a := a) (R := Ru) (r := r') (me := me) (mt := mt) (Q := fun v P => v ≠ vj ∧ WP (mc 18) tX11_holds 40 [vr (some 0), vi (r' : Nat), vi (k' : Nat), vi (n' : Nat), vr (some a)] [v] P (fun v N => ∃ z, v = vi z ∧ CP (mc 19) 170 [vr (some 35), vi (r' : Nat), vi (k' : Nat), vi (n' : Nat)] N (fun w R => w = vi z ∧ INV R ∧ GROW M R))) hN hu hs.1 o1.1 lv wu0 wR wRU (by omega) (fun P dP => ⟨(fun x => by cases x), by
            have yP : YF skS N P := YF_mono (fun b i w => by unfold skS; omega) (YF_DF dP)
            rw [enC_P hs]
            have tP := TI_sk yP tN
            have rP := REST_sk yP rN
            have hP := tP.1
            have o1' : ∀ i, gi P 1 i = gi N 1 i := fun i => yP.2 1 i (by unfold skS; omega)
            have o35 : ∀ i, gi P 35 i = gi N 35 i := fun i => yP.2 35 i (by unfold skS; omega)
            have o43 : gi P 43 sd = Ru := by rw [yP.2 43 sd (by unfold skS; omega)]; exact w43
            have kn : 0 ≤ (n' : Int) ∧ (n' : Int) ≤ gi P 35 37 := by rw [o35]; omega
            have fy := fun (Q : mV → mM → Prop) => y_isKnown (d := 17) (M := P) (Q := Q) (n := (n' : Nat)) hP
            simp only [if_pos kn] at fy
            have k0 : (0 ≤ ((k' : Nat) : Int)) = True := eq_true (by omega)
            have p18 : gi P 35 18 = sd := by rw [o35]; exact w18
            -- the reference
            have ref : CP (mc 19) 170 [vr (some 35), vi (r' : Nat), vi (k' : Nat), vi (n' : Nat)] P (fun w R => w = vi (if me r' (enP N (dy N n') W k') = 0 then 0 else 1) ∧ INV R ∧ GROW M R) := by
              have mk := y_mk (d := 16) (n := n') (M := P) (Q := fun v R1 => v = vj ∧ WP (mc 18) tX12_holds 36 [vr (some 35), vi (r' : Nat), vi (k' : Nat), vi (n' : Nat)] [] R1 (fun w R => w = vi (if me r' (enP N (dy N n') W k') = 0 then 0 else 1) ∧ INV R ∧ GROW M R)) tP (by rw [o1']; omega) (fun R1 W' y1 t1 hW' d1 => ⟨rfl, by
                have eW : W' = W := by rw [o1'] at hW'; omega
                subst eW
                have h1 := t1.1
                have feR : fe n' N R1 := by
                  have f1 := fe_YF yP (fun a i w => by unfold skS at w; omega) n'
                  have f2 := YF_fe y1 n'
                  refine ⟨fun a k h1 h2 h3 => by rw [f2.1 a k h1 h2 h3, f1.1 a k h1 h2 h3], fun s hs' => ?_⟩
                  rw [f2.2 s (by rw [o35]; exact hs'), f1.2 s hs']
                have eD : dy R1 n' = dy N n' := dyD hf hn37 feR
                have oR : ∀ i, ¬ (i = 51 ∨ i = 55) → gi R1 35 i = gi N 35 i := fun i w => by rw [y1.2 35 i (by unfold mdS; omega), o35]
                have ywR : YW R1 sd Ru c0 me mt := YW_f (M := N) (oR 18 (by omega)) (fun a i w => by rw [y1.2 a i (by unfold mdS; omega), yP.2 a i (by unfold skS; omega)]) ⟨wsd, w18, wc, wR, w43, wM, wfr, wmt⟩
                obtain ⟨v1, v2, v3, v4, v5, v6, v7, v8⟩ := ywR
                have hk1 : k' < cnt (dy R1 n') W' 288 := by rw [eD]; exact hk
                have i1R := t1.2.1
                have sfm := SFM_of t1.2.2.2.1 (by rw [oR 37 (by omega)]; exact hn37) (by have := i1R.2.2.1; omega) (by have := i1R.2.1; omega) d1.2.2 hk1
                have ev := enM_EV sfm
                have eE : enM R1 k' = enP N (dy N n') W' k' := by rw [enM_P hk1 d1.2.2, eD, (enP_fe hf hn37 feR hk).1]
                have m01 := MRU_01 v6 (show r' < Ru by omega) ev
                have g55 : gi R1 35 55 = (cnt (dy N n') W' 288 : Nat) := by rw [d1.2.1, eD]
                have k1 : (((k' : Nat) : Int) < ((cnt (dy N n') W' 288 : Nat) : Int)) = True := eq_true (by omega)
                have hh := y_isHeld (d := 14) (M := R1) (k := k') (r := r') (Q := fun v R2 => v ≠ vj ∧ WP (mc 18) tX12_holds 54 [vr (some 35), vi (r' : Nat), vi (k' : Nat), vi (n' : Nat)] [v] R2 (fun w R => w = vi (if me r' (enP N (dy N n') W' k') = 0 then 0 else 1) ∧ INV R ∧ GROW M R)) h1 sfm v1 v2 v3 (by omega) v4 v6 v7 ev (fun R2 dR => ⟨(fun x => by cases x), by
                  have y2 : YF skS R1 R2 := YF_mono (fun b i w => Or.inr (Or.inr w)) (YF_DF dR)
                  have fin : INV R2 ∧ GROW M R2 := ⟨⟨TI_sk y2 t1, REST_sk y2 (REST_md y1 rP)⟩, GROW_Y (GROW_Y (GROW_Y gN yP) y1) y2⟩
                  rw [eE] at m01 ⊢
                  rcases m01 with e0 | e0
                  · rw [e0]
                    simp only [↓eX12_holds_54, ↓eX12_holds_57, ↓eX12_holds_58, ↓eX12_holds_61, ↓eX12_holds_62, Int.cast_ofNat_Int, kd_si, gr_si, ln_si, gi_same, gi_na, gi_ni, nl_i, nl_r, nl_j, nj_i, nj_l, nj_r, true_and, and_true, and_self, cs_0, cs_1, cs_2, cs_3, cs_4, ↓reduceIte, Nat.reduceLeDiff, Nat.reduceEqDiff, Nat.reduceAdd, Int.reduceLE, Int.reduceLT, Int.reduceEq, Int.reduceAdd, Int.reduceNeg, Int.reduceToNat, Int.toNat_natCast, ne_eq, not_false_eq_true, not_true_eq_false, or_true, true_or, or_false, false_or]
                    exact fin
                  · rw [e0]
                    simp only [↓eX12_holds_54, ↓eX12_holds_57, ↓eX12_holds_58, ↓eX12_holds_61, ↓eX12_holds_62, Int.cast_ofNat_Int, kd_si, gr_si, ln_si, gi_same, gi_na, gi_ni, nl_i, nl_r, nl_j, nj_i, nj_l, nj_r, true_and, and_true, and_self, cs_0, cs_1, cs_2, cs_3, cs_4, ↓reduceIte, Nat.reduceLeDiff, Nat.reduceEqDiff, Nat.reduceAdd, Int.reduceLE, Int.reduceLT, Int.reduceEq, Int.reduceAdd, Int.reduceNeg, Int.reduceToNat, Int.toNat_natCast, ne_eq, not_false_eq_true, not_true_eq_false, or_true, true_or, or_false, false_or]
                    exact fin⟩)
                simp only [↓eX12_holds_36, ↓eX12_holds_37, ↓eX12_holds_38, ↓eX12_holds_41, ↓eX12_holds_44, ↓eX12_holds_45, ↓eX12_holds_48, ↓eX12_holds_49, ↓eX12_holds_50, ↓eX12_holds_51, hk35 h1, g55, k1, Int.cast_ofNat_Int, kd_si, gr_si, ln_si, gi_same, gi_na, gi_ni, nl_i, nl_r, nl_j, nj_i, nj_l, nj_r, true_and, and_true, and_self, cs_0, cs_1, cs_2, cs_3, cs_4, ↓reduceIte, Nat.reduceLeDiff, Nat.reduceEqDiff, Nat.reduceAdd, Int.reduceLE, Int.reduceLT, Int.reduceEq, Int.reduceAdd, Int.reduceNeg, Int.reduceToNat, Int.toNat_natCast, ne_eq, not_false_eq_true, not_true_eq_false, or_true, true_or, or_false, false_or]
                exact hh⟩)
              simp only [↓cpX12_holds, ↓eX12_holds_0, ↓eX12_holds_1, ↓eX12_holds_4, ↓eX12_holds_5, ↓eX12_holds_6, ↓eX12_holds_9, ↓eX12_holds_10, ↓eX12_holds_13, ↓eX12_holds_14, ↓eX12_holds_17, ↓eX12_holds_18, ↓eX12_holds_19, ↓eX12_holds_22, ↓eX12_holds_25, ↓eX12_holds_26, ↓eX12_holds_29, ↓eX12_holds_30, ↓eX12_holds_31, ↓eX12_holds_32, ↓eX12_holds_33, hk35 hP, hr35_20 hP, hk43 hP, hl43 hP, p18, o43, s0, s1, q1, q2, k0, ↓fy, Int.cast_ofNat_Int, kd_si, gr_si, ln_si, gi_same, gi_na, gi_ni, nl_i, nl_r, nl_j, nj_i, nj_l, nj_r, true_and, and_true, and_self, cs_0, cs_1, cs_2, cs_3, cs_4, ↓reduceIte, Nat.reduceLeDiff, Nat.reduceEqDiff, Nat.reduceAdd, Int.reduceLE, Int.reduceLT, Int.reduceEq, Int.reduceAdd, Int.reduceNeg, Int.reduceToNat, Int.toNat_natCast, ne_eq, not_false_eq_true, not_true_eq_false, or_true, true_or, or_false, false_or]
              exact mk
            by_cases e0 : me r' (enP N (dy N n') W k') = 0
            · rw [if_pos e0] at ref ⊢
              have fin : ∃ z, vi 0 = vi z ∧ CP (mc 19) 170 [vr (some 35), vi (r' : Nat), vi (k' : Nat), vi (n' : Nat)] P (fun w R => w = vi z ∧ INV R ∧ GROW M R) := ⟨0, rfl, ref⟩
              simp only [↓eX11_holds_40, ↓eX11_holds_43, ↓eX11_holds_44, ↓eX11_holds_47, ↓eX11_holds_48, Int.cast_ofNat_Int, kd_si, gr_si, ln_si, gi_same, gi_na, gi_ni, nl_i, nl_r, nl_j, nj_i, nj_l, nj_r, true_and, and_true, and_self, cs_0, cs_1, cs_2, cs_3, cs_4, ↓reduceIte, Nat.reduceLeDiff, Nat.reduceEqDiff, Nat.reduceAdd, Int.reduceLE, Int.reduceLT, Int.reduceEq, Int.reduceAdd, Int.reduceNeg, Int.reduceToNat, Int.toNat_natCast, ne_eq, not_false_eq_true, not_true_eq_false, or_true, true_or, or_false, false_or]
              exact fin
            · rw [if_neg e0] at ref ⊢
              have fin : ∃ z, vi 1 = vi z ∧ CP (mc 19) 170 [vr (some 35), vi (r' : Nat), vi (k' : Nat), vi (n' : Nat)] P (fun w R => w = vi z ∧ INV R ∧ GROW M R) := ⟨1, rfl, ref⟩
              simp only [↓eX11_holds_40, ↓eX11_holds_43, ↓eX11_holds_44, ↓eX11_holds_47, ↓eX11_holds_48, Int.cast_ofNat_Int, kd_si, gr_si, ln_si, gi_same, gi_na, gi_ni, nl_i, nl_r, nl_j, nj_i, nj_l, nj_r, true_and, and_true, and_self, cs_0, cs_1, cs_2, cs_3, cs_4, ↓reduceIte, Nat.reduceLeDiff, Nat.reduceEqDiff, Nat.reduceAdd, Int.reduceLE, Int.reduceLT, Int.reduceEq, Int.reduceAdd, Int.reduceNeg, Int.reduceToNat, Int.toNat_natCast, ne_eq, not_false_eq_true, not_true_eq_false, or_true, true_or, or_false, false_or]
              exact fin⟩)
          simp only [↓eX11_holds_6, ↓eX11_holds_8, ↓eX11_holds_10, ↓eX11_holds_13, ↓eX11_holds_14, ↓eX11_holds_17, ↓eX11_holds_18, ↓eX11_holds_19, ↓eX11_holds_22, ↓eX11_holds_25, ↓eX11_holds_28, ↓eX11_holds_29, ↓eX11_holds_30, ↓eX11_holds_31, ↓eX11_holds_34, ↓eX11_holds_35, ↓eX11_holds_37, hk0 hN, w5, ku, wu0, q1, q2', nlI, reduceCtorEq, Int.cast_ofNat_Int, kd_si, gr_si, ln_si, gi_same, gi_na, gi_ni, nl_i, nl_r, nl_j, nj_i, nj_l, nj_r, true_and, and_true, and_self, cs_0, cs_1, cs_2, cs_3, cs_4, ↓reduceIte, Nat.reduceLeDiff, Nat.reduceEqDiff, Nat.reduceAdd, Int.reduceLE, Int.reduceLT, Int.reduceEq, Int.reduceAdd, Int.reduceNeg, Int.reduceToNat, Int.toNat_natCast, ne_eq, not_false_eq_true, not_true_eq_false, or_true, true_or, or_false, false_or]
          exact met
        · rw [if_neg z]
          have ref : CP (mc 19) 170 [vr (some 35), vi (r' : Nat), vi k, vi (n' : Nat)] N (fun w R => w = vi (-1) ∧ INV R ∧ GROW M R) := by
            by_cases y : 0 ≤ k
            · obtain ⟨k', rfl⟩ : ∃ j : Nat, k = j := ⟨k.toNat, by omega⟩
              have k0 : (0 ≤ ((k' : Nat) : Int)) = True := eq_true (by omega)
              have kn : 0 ≤ (n' : Int) ∧ (n' : Int) ≤ gi N 35 37 := by omega
              have fy := fun (Q : mV → mM → Prop) => y_isKnown (d := 17) (M := N) (Q := Q) (n := (n' : Nat)) hN
              simp only [if_pos kn] at fy
              have mk := y_mk (d := 16) (n := n') (M := N) (Q := fun v R1 => v = vj ∧ WP (mc 18) tX12_holds 36 [vr (some 35), vi (r' : Nat), vi (k' : Nat), vi (n' : Nat)] [] R1 (fun w R => w = vi (-1) ∧ INV R ∧ GROW M R)) tN (by omega) (fun R1 W' y1 t1 hW' d1 => ⟨rfl, by
                have eW : W' = W := by omega
                subst eW
                have eD : dy R1 n' = dy N n' := dyD hf hn37 (YF_fe y1 n')
                have g55 : gi R1 35 55 = (cnt (dy N n') W' 288 : Nat) := by rw [d1.2.1, eD]
                have k1 : (((k' : Nat) : Int) < ((cnt (dy N n') W' 288 : Nat) : Int)) = False := eq_false (by omega)
                have fin : INV R1 ∧ GROW M R1 := ⟨⟨t1, REST_md y1 rN⟩, GROW_Y gN y1⟩
                simp only [↓eX12_holds_36, ↓eX12_holds_37, ↓eX12_holds_38, ↓eX12_holds_41, ↓eX12_holds_44, ↓eX12_holds_45, ↓eX12_holds_62, hk35 t1.1, g55, k1, Int.cast_ofNat_Int, kd_si, gr_si, ln_si, gi_same, gi_na, gi_ni, nl_i, nl_r, nl_j, nj_i, nj_l, nj_r, true_and, and_true, and_self, cs_0, cs_1, cs_2, cs_3, cs_4, ↓reduceIte, Nat.reduceLeDiff, Nat.reduceEqDiff, Nat.reduceAdd, Int.reduceLE, Int.reduceLT, Int.reduceEq, Int.reduceAdd, Int.reduceNeg, Int.reduceToNat, Int.toNat_natCast, ne_eq, not_false_eq_true, not_true_eq_false, or_true, true_or, or_false, false_or]
                exact fin⟩)
              simp only [↓cpX12_holds, ↓eX12_holds_0, ↓eX12_holds_1, ↓eX12_holds_4, ↓eX12_holds_5, ↓eX12_holds_6, ↓eX12_holds_9, ↓eX12_holds_10, ↓eX12_holds_13, ↓eX12_holds_14, ↓eX12_holds_17, ↓eX12_holds_18, ↓eX12_holds_19, ↓eX12_holds_22, ↓eX12_holds_25, ↓eX12_holds_26, ↓eX12_holds_29, ↓eX12_holds_30, ↓eX12_holds_31, ↓eX12_holds_32, ↓eX12_holds_33, hk35 hN, hr35_20 hN, hk43 hN, hl43 hN, w18, w43, s0, s1, q1, q2, k0, ↓fy, Int.cast_ofNat_Int, kd_si, gr_si, ln_si, gi_same, gi_na, gi_ni, nl_i, nl_r, nl_j, nj_i, nj_l, nj_r, true_and, and_true, and_self, cs_0, cs_1, cs_2, cs_3, cs_4, ↓reduceIte, Nat.reduceLeDiff, Nat.reduceEqDiff, Nat.reduceAdd, Int.reduceLE, Int.reduceLT, Int.reduceEq, Int.reduceAdd, Int.reduceNeg, Int.reduceToNat, Int.toNat_natCast, ne_eq, not_false_eq_true, not_true_eq_false, or_true, true_or, or_false, false_or]
              exact mk
            · rw [y_holdsK (d := 17) hN wsd w18 w43 (fun w => y w.2)]
              exact ⟨rfl, ⟨tN, rN⟩, gN⟩
          have fin := no (vi (-1)) rfl ref
          simp only [↓eX11_holds_6, ↓eX11_holds_8, ↓eX11_holds_10, ↓eX11_holds_13, ↓eX11_holds_14, ↓eX11_holds_17, ↓eX11_holds_18, ↓eX11_holds_19, ↓eX11_holds_22, ↓eX11_holds_25, ↓eX11_holds_28, ↓eX11_holds_29, nlI, Int.cast_ofNat_Int, kd_si, gr_si, ln_si, gi_same, gi_na, gi_ni, nl_i, nl_r, nl_j, nj_i, nj_l, nj_r, true_and, and_true, and_self, cs_0, cs_1, cs_2, cs_3, cs_4, ↓reduceIte, Nat.reduceLeDiff, Nat.reduceEqDiff, Nat.reduceAdd, Int.reduceLE, Int.reduceLT, Int.reduceEq, Int.reduceAdd, Int.reduceNeg, Int.reduceToNat, Int.toNat_natCast, ne_eq, not_false_eq_true, not_true_eq_false, or_true, true_or, or_false, false_or]
          exact fin
      · have ref : CP (mc 19) 170 [vr (some 35), vi r, vi k, vi (n' : Nat)] N (fun w R => w = vi (-1) ∧ INV R ∧ GROW M R) := by
          rw [y_holdsR (d := 18) hN wsd w18 w43 qr]
          exact ⟨rfl, ⟨tN, rN⟩, gN⟩
        have fin := no (vi (-1)) rfl ref
        generalize (if 0 ≤ k ∧ k < ((cnt (dy N n') W 288 : Nat) : Int) then gr N 14 k.toNat else none) = o
        cases o with
        | none =>
          simp only [↓eX11_holds_6, ↓eX11_holds_8, ↓eX11_holds_10, ↓eX11_holds_13, ↓eX11_holds_14, ↓eX11_holds_17, ↓eX11_holds_18, ↓eX11_holds_19, ↓eX11_holds_22, ↓eX11_holds_25, ↓eX11_holds_28, ↓eX11_holds_29, nlI, Int.cast_ofNat_Int, kd_si, gr_si, ln_si, gi_same, gi_na, gi_ni, nl_i, nl_r, nl_j, nj_i, nj_l, nj_r, true_and, and_true, and_self, cs_0, cs_1, cs_2, cs_3, cs_4, ↓reduceIte, Nat.reduceLeDiff, Nat.reduceEqDiff, Nat.reduceAdd, Int.reduceLE, Int.reduceLT, Int.reduceEq, Int.reduceAdd, Int.reduceNeg, Int.reduceToNat, Int.toNat_natCast, ne_eq, not_false_eq_true, not_true_eq_false, or_true, true_or, or_false, false_or]
          exact fin
        | some a =>
          by_cases q1 : r < 0
          · simp only [↓eX11_holds_6, ↓eX11_holds_8, ↓eX11_holds_10, ↓eX11_holds_13, ↓eX11_holds_14, ↓eX11_holds_17, ↓eX11_holds_18, ↓eX11_holds_19, ↓eX11_holds_22, ↓eX11_holds_25, ↓eX11_holds_28, ↓eX11_holds_29, nlI, q1, reduceCtorEq, Int.cast_ofNat_Int, kd_si, gr_si, ln_si, gi_same, gi_na, gi_ni, nl_i, nl_r, nl_j, nj_i, nj_l, nj_r, true_and, and_true, and_self, cs_0, cs_1, cs_2, cs_3, cs_4, ↓reduceIte, Nat.reduceLeDiff, Nat.reduceEqDiff, Nat.reduceAdd, Int.reduceLE, Int.reduceLT, Int.reduceEq, Int.reduceAdd, Int.reduceNeg, Int.reduceToNat, Int.toNat_natCast, ne_eq, not_false_eq_true, not_true_eq_false, or_true, true_or, or_false, false_or]
            exact fin
          · have q2 : (r < (Ru : Int)) = False := eq_false (by omega)
            simp only [↓eX11_holds_6, ↓eX11_holds_8, ↓eX11_holds_10, ↓eX11_holds_13, ↓eX11_holds_14, ↓eX11_holds_17, ↓eX11_holds_18, ↓eX11_holds_19, ↓eX11_holds_22, ↓eX11_holds_25, ↓eX11_holds_28, ↓eX11_holds_29, hk0 hN, w5, ku, wu0, nlI, q1, q2, reduceCtorEq, Int.cast_ofNat_Int, kd_si, gr_si, ln_si, gi_same, gi_na, gi_ni, nl_i, nl_r, nl_j, nj_i, nj_l, nj_r, true_and, and_true, and_self, cs_0, cs_1, cs_2, cs_3, cs_4, ↓reduceIte, Nat.reduceLeDiff, Nat.reduceEqDiff, Nat.reduceAdd, Int.reduceLE, Int.reduceLT, Int.reduceEq, Int.reduceAdd, Int.reduceNeg, Int.reduceToNat, Int.toNat_natCast, ne_eq, not_false_eq_true, not_true_eq_false, or_true, true_or, or_false, false_or]
            exact fin⟩)
    simp only [↓cpX11_holds, ↓eX11_holds_0, ↓eX11_holds_1, ↓eX11_holds_2, ↓eX11_holds_3, hk0 h, Int.cast_ofNat_Int, kd_si, gr_si, ln_si, gi_same, gi_na, gi_ni, nl_i, nl_r, nl_j, nj_i, nj_l, nj_r, true_and, and_true, and_self, cs_0, cs_1, cs_2, cs_3, cs_4, ↓reduceIte, Nat.reduceLeDiff, Nat.reduceEqDiff, Nat.reduceAdd, Int.reduceLE, Int.reduceLT, Int.reduceEq, Int.reduceAdd, Int.reduceNeg, Int.reduceToNat, Int.toNat_natCast, ne_eq, not_false_eq_true, not_true_eq_false, or_true, true_or, or_false, false_or]
    exact fnd
  · have fn := fun (Q : mV → mM → Prop) => x_findN (d := 16) (M := M) (Q := Q) (k := k) (n := n) h q
    obtain ⟨u, u', sd, Ru, c0, me, mt, w5, w6, wu, wsd, w18, wu0, wR, wRU, w43, -⟩ := hI.2.2.2.1
    have e1 : ∀ Q : mV → mM → Prop, CP (mc 19) 116 [vr (some 0), vi r, vi k, vi n] M Q = Q (vi (-1)) M := fun Q => by
      simp only [↓cpX11_holds, ↓eX11_holds_0, ↓eX11_holds_1, ↓eX11_holds_2, ↓eX11_holds_3, ↓eX11_holds_6, ↓eX11_holds_8, ↓eX11_holds_10, ↓eX11_holds_13, ↓eX11_holds_14, ↓eX11_holds_17, ↓eX11_holds_18, ↓eX11_holds_19, ↓eX11_holds_22, ↓eX11_holds_25, ↓eX11_holds_28, ↓eX11_holds_29, hk0 h, ↓fn, nlI, Int.cast_ofNat_Int, kd_si, gr_si, ln_si, gi_same, gi_na, gi_ni, nl_i, nl_r, nl_j, nj_i, nj_l, nj_r, true_and, and_true, and_self, cs_0, cs_1, cs_2, cs_3, cs_4, ↓reduceIte, Nat.reduceLeDiff, Nat.reduceEqDiff, Nat.reduceAdd, Int.reduceLE, Int.reduceLT, Int.reduceEq, Int.reduceAdd, Int.reduceNeg, Int.reduceToNat, Int.toNat_natCast, ne_eq, not_false_eq_true, not_true_eq_false, or_true, true_or, or_false, false_or]
    rw [e1]
    refine ⟨_, rfl, ?_⟩
    rw [y_holdsK (d := 17) h wsd w18 w43 (fun w => q (by rw [← a9]; exact w.1))]
    exact ⟨rfl, hI, GROW_refl⟩
