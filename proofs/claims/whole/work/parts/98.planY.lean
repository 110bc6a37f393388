/-! ===== plan of the reference ===== -/
theorem aro_sy {M : mM} {F : Nat → Int} {a b : Nat} (h : aro M F a b) : aro M F b a := ⟨h.1.symm, h.2.1.symm, fun w => h.2.2 (h.2.1.trans w)⟩
theorem aro_tr {M : mM} {F : Nat → Int} {a b c : Nat} (h : aro M F a b) (k : aro M F b c) : aro M F a c := ⟨h.1.trans k.1, h.2.1.trans k.2.1, h.2.2⟩
theorem lo_aro {M : mM} {F : Nat → Int} {a b : Nat} (hab : a ≠ b) : lo M F a = lo M F b ↔ aro M F a b := by
  constructor
  · intro e
    rcases lo_LO M F a with ⟨a1, a2⟩ | ⟨a1, a2, a3⟩
    · rcases lo_LO M F b with ⟨b1, b2⟩ | ⟨b1, b2, b3⟩
      · omega
      · rw [← e, a1] at b2
        exact b2
    · rcases lo_LO M F b with ⟨b1, b2⟩ | ⟨b1, b2, b3⟩
      · rw [e, b1] at a2
        exact aro_sy a2
      · rw [← e] at b2
        exact aro_tr (aro_sy a2) b2
  · intro h
    refine LO_1 (M := M) (F := F) (k := b) ?_ (lo_LO M F b)
    rcases lo_LO M F a with ⟨a1, a2⟩ | ⟨a1, a2, a3⟩
    · rw [a1]
      rcases Nat.lt_or_ge a b with w | w
      · exact Or.inr ⟨w, h, fun j hj x => a2 j hj (aro_tr x (aro_sy h))⟩
      · exact absurd (aro_sy h) (a2 b (by omega))
    · rcases Nat.lt_trichotomy (lo M F a) b with w | w | w
      · exact Or.inr ⟨w, aro_tr a2 h, fun j hj x => a3 j hj (aro_tr x (aro_sy h))⟩
      · exact Or.inl ⟨w, fun j hj x => a3 j (by omega) (aro_tr x (aro_sy h))⟩
      · exact absurd (aro_sy h) (a3 b w)
theorem cfv_one {M : mM} {D : Nat → Nat → Int} {W : Nat} {ld tl : Int} {wv : Nat → Int} {sl : Nat → Nat} {cv : Nat → Nat → Int} {c : Nat} (hcv : ∀ j i, j < c → cv j i = cfv M D W ld tl wv (sl j) i) (hsl : ∀ i j, i ≠ j → i < c → j < c → sl i ≠ sl j) {i k : Nat} (hik : i ≠ k) (hi : i < c) (hk : k < c) : decide (cv k 5 = cv i 5) = alk (fun j => cv j 2) (fun j => cv j 3) i k := by
  unfold alk
  refine decide_eq_decide.mpr ?_
  simp only
  rw [hcv k 5 hk, hcv i 5 hi, hcv i 2 hi, hcv k 2 hk, hcv i 3 hi, hcv k 3 hk]
  have e5 : ∀ x, cfv M D W ld tl wv x 5 = (lo M (sF D W) x : Nat) := fun _ => rfl
  have e2 : ∀ x, cfv M D W ld tl wv x 2 = gi M 61 (sF D W x).toNat := fun _ => rfl
  have e3 : ∀ x, cfv M D W ld tl wv x 3 = gi M 62 (sF D W x).toNat := fun _ => rfl
  rw [e5, e5, e2, e2, e3, e3]
  have := lo_aro (M := M) (F := sF D W) (hsl i k hik hi hk)
  constructor
  · intro w
    exact this.mp (by omega)
  · intro w
    have := this.mpr w
    omega
def rsS (a i : Nat) : Prop := a = 82 ∨ a = 83
theorem y_rs_loop {d n b : Nat} {B : mM} {Q : mV → mM → Prop} {wt fr un ti ep way : Nat → Int} {may : Nat → Bool} {tu room : Int} {v1 v2 v3 : Int} {a5 a6 : mV} (hD : RD B n wt fr un ti ep way may) (hS : SN n wt fr un way) (h63 : gi B 35 63 = (b : Nat)) (hb : b < 2 ^ n) (h64 : gi B 35 64 = sm (spn fr un) b n) (htu : gi B 35 46 = tu) (hro : gi B 35 49 = room)
    (hQ : ∀ N, YF rsS B N → (∀ j, j < n → gi N 82 j = whyR n b fr un ti ep may tu room j ∧ gi N 83 j = byR n b wt fr un ti ep j (whyR n b fr un ti ep may tu room j)) → Q (vi v3) N) :
    ∀ (r i : Nat) (N : mM), i + r = n → YF rsS B N → (∀ j, j < i → gi N 82 j = whyR n b fr un ti ep may tu room j ∧ gi N 83 j = byR n b wt fr un ti ep j (whyR n b fr un ti ep may tu room j)) → WP (mc (d + 2)) tX12_plan 432 [vr (some 35), vi v1, vi v2, vi v3, vi (i : Nat), a5, a6] [] N Q := by
  have hD0 := hD
  obtain ⟨h, h0, hn, hj⟩ := hD
  intro r
  induction r with
  | zero =>
    intro i N hr hN hA
    have e : i = n := by omega
    subst e
    have hNs := YF_SH hN h
    have g62 : gi N 35 62 = i := by rw [hN.2 35 62 (by unfold rsS; omega)]; exact h0
    rw [eX12_plan_432]
    simp only [↓eX12_plan_434, ↓eX12_plan_435, ↓eX12_plan_438, ↓eX12_plan_453, ↓eX12_plan_454, hk35 hNs, g62, Int.le_refl, Int.cast_ofNat_Int, kd_si, gr_si, ln_si, gi_same, gi_na, gi_ni, nl_i, nl_r, nl_j, nj_i, nj_l, nj_r, true_and, and_true, and_self, cs_0, cs_1, cs_2, cs_3, cs_4, ↓reduceIte, Nat.reduceLeDiff, Nat.reduceEqDiff, Nat.reduceAdd, Int.reduceLE, Int.reduceLT, Int.reduceEq, Int.reduceAdd, Int.reduceNeg, Int.reduceToNat, Int.toNat_natCast, ne_eq, not_false_eq_true, not_true_eq_false, or_true, true_or, or_false, false_or]
    exact hQ N hN hA
  | succ r ih =>
    intro i N hr hN hA
    have hin : i < n := by omega
    have hNs := YF_SH hN h
    have o : ∀ a j, a ≠ 82 → a ≠ 83 → gi N a j = gi B a j := fun a j h1 h2 => hN.2 a j (by unfold rsS; omega)
    have g62 : gi N 35 62 = n := by rw [o 35 62 (by decide) (by decide)]; exact h0
    have e1 : ((n : Int) ≤ (i : Int)) = False := eq_false (by omega)
    have e2 : wr ((i : Int) + 1) = ((i + 1 : Nat) : Int) := by rw [wr_id (by omega) (by omega)]; omega
    have hDN : RD N n wt fr un ti ep way may := RD_f hN.1 (o 35 62 (by decide) (by decide)) (fun a j q1 q2 => o a j (by omega) (by omega)) hD0
    have fr' := fun (Q : mV → mM → Prop) => y_reasons (d := d) (N := N) (Q := Q) (b := b) (tu := tu) (room := room) hDN hS (by rw [o 35 63 (by decide) (by decide)]; exact h63) hb (by rw [o 35 64 (by decide) (by decide)]; exact h64) (by rw [o 35 46 (by decide) (by decide)]; exact htu) (by rw [o 35 49 (by decide) (by decide)]; exact hro) hin
    have nxt := ih (i + 1) (rsM N i (whyR n b fr un ti ep may tu room i) (byR n b wt fr un ti ep i (whyR n b fr un ti ep may tu room i))) (by omega) (YF_si (Or.inr rfl) (YF_si (Or.inl rfl) hN)) (fun j hj => by
      by_cases q : j = i
      · rw [q]
        exact ⟨by unfold rsM; rw [gi_na (by decide), gi_same], gi_rs83⟩
      · unfold rsM
        rw [gi_na (by decide), gi_ni q, gi_ni q, gi_na (by decide)]
        exact hA j (by omega))
    rw [eX12_plan_432]
    simp only [↓eX12_plan_434, ↓eX12_plan_435, ↓eX12_plan_438, ↓eX12_plan_441, ↓eX12_plan_442, ↓eX12_plan_444, ↓eX12_plan_447, ↓eX12_plan_450, hk35 hNs, g62, e1, e2, ↓fr', Int.cast_ofNat_Int, kd_si, gr_si, ln_si, gi_same, gi_na, gi_ni, nl_i, nl_r, nl_j, nj_i, nj_l, nj_r, true_and, and_true, and_self, cs_0, cs_1, cs_2, cs_3, cs_4, ↓reduceIte, Nat.reduceLeDiff, Nat.reduceEqDiff, Nat.reduceAdd, Int.reduceLE, Int.reduceLT, Int.reduceEq, Int.reduceAdd, Int.reduceNeg, Int.reduceToNat, Int.toNat_natCast, ne_eq, not_false_eq_true, not_true_eq_false, or_true, true_or, or_false, false_or]
    exact nxt
def plY (a i : Nat) : Prop := mdS a i ∨ skS a i ∨ (72 ≤ a ∧ a ≤ 87) ∨ (a = 35 ∧ ((61 ≤ i ∧ i ≤ 64) ∨ i = 77))
section PLANY
variable {d n W sd R c0 nh os : Nat} {M : mM} {Q : mV → mM → Prop} {me : Nat → Env → Int} {mt : Nat → Int}
theorem y_planG (hT : TI M) (hw : YW M sd R c0 me mt) (hO : OLD M nh os) (hn : (n : Int) ≤ gi M 1 2) (hW : gi M 1 0 = W)
    (wv : Nat → Int) (hwv : ∀ k, k < cnt (dy M n) W 288 → wv k = wgh me mt (enP M (dy M n) W k) R 0 0) (q : Nat → Bool) (hq : ∀ k, k < cnt (dy M n) W 288 → q k = decide (wv k ≠ 0)) (c : Nat) (hc : c = ctp q (cnt (dy M n) W 288)) (cv : Nat → Nat → Int) (hcv : ∀ j i, j < c → cv j i = cfv M (dy M n) W (gi M 20 1) (gi M 20 2) wv (sel q (cnt (dy M n) W 288) j) i)
    (way : Nat → Int) (hway : ∀ j, j < c → way j = if ff (uwq (fun i => os.testBit i) (gi M 74) (gi M 77) (gi M 78) (gi M 79) (gi M 76) (gi M 20 4) (cv j 1) (cv j 2) (cv j 3) (cv j 4)) nh 0 ≠ -1 then 1 else 0) (may : Nat → Bool) (hm : ∀ j, j < c → may j = decide (way j = 1 ∨ gi M 20 4 ≤ cv j 7))
    (hQ1 : ∀ N b, c ≤ 14 → YF plY M N → TI N → bestOf c way (fun j => cv j 6) (spn (fun j => cv j 7) (fun j => cv j 8)) (VC c (fun j => cv j 7) (fun j => cv j 8) may (fun i j => decide (cv i 5 = cv j 5)) (gi M 20 0) (gi M 20 3)) b → gi N 35 61 = (n : Nat) → gi N 35 62 = (c : Nat) → gi N 35 63 = (b : Nat) → gi N 35 64 = sm (spn (fun j => cv j 7) (fun j => cv j 8)) b c → (∀ j, j < c → RW N cv way may j ∧ gi N 82 j = whyP c b (fun j => cv j 7) (fun j => cv j 8) (fun j => cv j 5) may (gi M 20 0) (gi M 20 3) j ∧ gi N 83 j = rivP c b (fun j => cv j 6) (fun j => cv j 7) (fun j => cv j 8) (fun j => cv j 5) j (whyP c b (fun j => cv j 7) (fun j => cv j 8) (fun j => cv j 5) may (gi M 20 0) (gi M 20 3) j)) → Q (vi (sm (fun j => cv j 6) b c)) N)
    (hQ0 : ∀ N, 14 < c → YF (fun a i => mdS a i ∨ skS a i) M N → TI N → Q (vi (-2)) N) : CP (mc (d + 6)) 177 [vr (some 35), vi (n : Nat)] M Q := by
  have h := hT.1
  have i1 := hT.2.1
  have hf := hT.2.2.2.1
  obtain ⟨⟨b1, b2, b3⟩, ⟨b4, b5, b6⟩, ⟨b7, b8, b9'⟩, ⟨b10, b11, b12⟩, ⟨b13, b14, b15⟩, ⟨b16, b17, b18⟩, ⟨b19, b20, b21⟩, ⟨b22, b23, b24⟩, -⟩ := i1
  have hn37 : (n : Int) ≤ gi M 35 37 := by omega
  have c6 := cnt_600 hf hn37 W
  have fk := fun (Q : mV → mM → Prop) => y_isKnown (d := d + 4) (M := M) (Q := Q) (n := (n : Nat)) h
  have n1 : 0 ≤ (n : Int) ∧ (n : Int) ≤ gi M 35 37 := ⟨by omega, by omega⟩
  have mk := y_mk (d := d + 3) (M := M) (Q := fun v N => v = vj ∧ WP (mc (d + 5)) tX12_plan 15 [vr (some 35), vi (n : Nat), vj, vj, vj, vj, vj] [] N Q) hT hn (fun N1 W' y1 t1 hW' d1 => ⟨rfl, by
    have eW : W' = W := by omega
    subst eW
    have o1 : ∀ a i, ¬ mdS a i → gi N1 a i = gi M a i := y1.2
    have fe1 := YF_fe y1 n
    have eD1 : dy N1 n = dy M n := dyD hf hn37 fe1
    have hw1 : YW N1 sd R c0 me mt := YW_f (o1 35 18 (by unfold mdS; omega)) (fun a i w => o1 a i (by unfold mdS; omega)) hw
    have hn1 : (n : Int) ≤ gi N1 35 37 := by rw [o1 35 37 (by unfold mdS; omega)]; exact hn37
    have ml := y_many_loop (d := d) (Q := Q) (M := N1) t1 d1 hn1 hw1 wv (fun k hk => by
      rw [eD1] at hk ⊢
      rw [hwv k hk, (enP_fe hf hn37 fe1 hk).1]) q (fun k hk => by rw [eD1] at hk; exact hq k hk) vj vj vj (fun N2 y2 => by
      have hc' : ctp q (cnt (dy N1 n) W' 288) = c := by rw [eD1]; exact hc.symm
      rw [hc', eD1]
      have t2 := TI_sk y2 t1
      have h2s := t2.1
      have y12 : YF (fun a i => mdS a i ∨ skS a i) M N2 := YF_trans (YF_mono (fun a i w => Or.inl w) y1) (YF_mono (fun a i w => Or.inr w) y2)
      by_cases z : 14 < c
      · have z' : (((c : Nat) : Int) ≤ 14) = False := eq_false (by omega)
        have fin := hQ0 N2 z y12 t2
        simp only [↓eX12_plan_44, ↓eX12_plan_45, ↓eX12_plan_47, ↓eX12_plan_50, ↓eX12_plan_52, z', Int.cast_ofNat_Int, kd_si, gr_si, ln_si, gi_same, gi_na, gi_ni, nl_i, nl_r, nl_j, nj_i, nj_l, nj_r, true_and, and_true, and_self, cs_0, cs_1, cs_2, cs_3, cs_4, ↓reduceIte, Nat.reduceLeDiff, Nat.reduceEqDiff, Nat.reduceAdd, Int.reduceLE, Int.reduceLT, Int.reduceEq, Int.reduceAdd, Int.reduceNeg, Int.reduceToNat, Int.toNat_natCast, ne_eq, not_false_eq_true, not_true_eq_false, or_true, true_or, or_false, false_or]
        exact fin
      · have z' : (((c : Nat) : Int) ≤ 14) = True := eq_true (by omega)
        have hc14 : c ≤ 14 := by omega
        have o2 : ∀ a i, ¬ (mdS a i ∨ skS a i) → gi N2 a i = gi M a i := y12.2
        have o235 : ∀ i, i ≠ 51 → i ≠ 55 → gi N2 35 i = gi M 35 i := fun i q1 q2 => o2 35 i (by unfold mdS skS; omega)
        have o2t : ∀ a i, 72 ≤ a → gi N2 a i = gi M a i := fun a i q1 => o2 a i (by unfold mdS skS; omega)
        have hO2 : OLD N2 nh os := by
          rcases hO with ⟨x1, x2, x3⟩ | ⟨x1, x2, x3, x4, x5⟩
          · exact Or.inl ⟨by rw [o235 61 (by decide) (by decide)]; exact x1, x2, x3⟩
          · exact Or.inr ⟨by rw [o235 61 (by decide) (by decide)]; exact x1, by rw [o235 62 (by decide) (by decide)]; exact x2, x3, by rw [o235 63 (by decide) (by decide)]; exact x4, x5⟩
        have bg := y_begins (d := d + 4) (M := N2) (Q := fun v N => v = vj ∧ WP (mc (d + 5)) tX12_plan 57 [vr (some 35), vi (n : Nat), vi (c : Nat), vi (cnt (dy M n) W' 288 : Nat), vj, vj, vj] [] N Q) (now := gi M 20 4) h2s hO2 (by rw [o235 50 (by decide) (by decide)]; exact b24) (fun N3 g y3 hB => ⟨rfl, by
          have h3s := YF_SH y3 h2s
          obtain ⟨g77, g14, hB⟩ := hB
          -- the memory ahead of the second loop
          have y3' : YF (fun a i => bgS a i ∨ (a = 35 ∧ i = 62)) N2 (si N3 35 62 0) := YF_si (Or.inr ⟨rfl, rfl⟩) (YF_mono (fun a i w => Or.inl w) y3)
          have yM3 : YF (fun a i => (mdS a i ∨ skS a i) ∨ (bgS a i ∨ (a = 35 ∧ i = 62))) M (si N3 35 62 0) := YF_trans (YF_mono (fun a i w => Or.inl w) y12) (YF_mono (fun a i w => Or.inr w) y3')
          have t3 : TI (si N3 35 62 0) := TI_YF y3' (fun a i w => by
            unfold bgS at w
            have hk2 := kd_267 h2s (a := a) (by omega)
            refine ⟨by omega, fun v => ?_⟩
            unfold toldG isRow t35 at v
            omega) t2
          have o3 : ∀ a i, ¬ ((mdS a i ∨ skS a i) ∨ (bgS a i ∨ (a = 35 ∧ i = 62))) → gi (si N3 35 62 0) a i = gi M a i := yM3.2
          have fe3 : fe n M (si N3 35 62 0) := ⟨fun a k q1 q2 _ => o3 a k (by unfold mdS skS bgS; omega), fun s _ => o3 55 s (by unfold mdS skS bgS; omega)⟩
          have eD3 : dy (si N3 35 62 0) n = dy M n := dyD hf hn37 fe3
          have fe13 : fe n N1 (si N3 35 62 0) := ⟨fun a k q1 q2 _ => by rw [o3 a k (by unfold mdS skS bgS; omega), o1 a k (by unfold mdS; omega)], fun s _ => by rw [o3 55 s (by unfold mdS skS bgS; omega), o1 55 s (by unfold mdS; omega)]⟩
          have y13 : ∀ a i, ¬ (skS a i ∨ (bgS a i ∨ (a = 35 ∧ i = 62))) → gi (si N3 35 62 0) a i = gi N1 a i := fun a i w => by
            rw [y3'.2 a i (fun v => w (Or.inr v)), y2.2 a i (fun v => w (Or.inl v))]
          have d3 : DAYM (si N3 35 62 0) n W' := DAYM_f t1.2.2.2.1 hn1 fe13 (y13 35 55 (by unfold skS bgS; omega)) (fun a i w => y13 a i (by unfold skS bgS; omega)) d1
          have sok : ∀ j, j < c → sel q (cnt (dy M n) W' 288) j < cnt (dy M n) W' 288 ∧ q (sel q (cnt (dy M n) W' 288) j) = true := fun j hj => by
            obtain ⟨a, b, -⟩ := sel_ok (q := q) (cnt (dy M n) W' 288) j (by omega)
            exact ⟨a, b⟩
          have hcc : ctp q (cnt (dy (si N3 35 62 0) n) W' 288) = c := by rw [eD3]; exact hc.symm
          have SNc : SN c (fun j => cv j 6) (fun j => cv j 7) (fun j => cv j 8) way := fun j hj => by
            obtain ⟨a, b⟩ := sok j hj
            refine ⟨?_, ?_, ?_⟩
            · have e6 : cv j 6 = wv (sel q (cnt (dy M n) W' 288) j) := by rw [hcv j 6 hj]; rfl
              have b9w : b9 (wv (sel q (cnt (dy M n) W' 288) j)) := by rw [hwv _ a]; exact wgh_bd hw.2.2.2.2.2.2.2 R 0 0 (by omega) ⟨by decide, by decide⟩
              rw [hq _ a, decide_eq_true_eq] at b
              show 1 ≤ cv j 6 ∧ cv j 6 ≤ 9999
              rw [e6]
              obtain ⟨b1, b2⟩ := b9w
              omega
            · show 0 ≤ cv j 7 ∧ cv j 7 < cv j 8 ∧ cv j 8 ≤ 288
              rw [hcv j 7 hj, hcv j 8 hj]
              exact cfv_SN a (by omega) (by omega)
            · rw [hway j hj]
              split
              · exact Or.inr rfl
              · exact Or.inl rfl
          have cl := y_cand_loop (d := d) (B := si N3 35 62 0) (Q := Q) (W := W') (g := g) (ld := gi M 20 1) (tl := gi M 20 2) (now := gi M 20 4) t3 d3 (by rw [o3 35 37 (by unfold mdS skS bgS; omega)]; exact hn37) (YW_f (o3 35 18 (by unfold mdS skS bgS; omega)) (fun a i w => o3 a i (by unfold mdS skS bgS; omega)) hw) wv (fun k hk => by
              rw [eD3] at hk ⊢
              rw [hwv k hk, (enP_fe hf hn37 fe3 hk).1]) q (fun k hk => by rw [eD3] at hk; exact hq k hk) (by rw [hcc]; exact hc14) (by rw [o3 35 47 (by unfold mdS skS bgS; omega)]; exact b15) (by rw [o3 35 48 (by unfold mdS skS bgS; omega)]; exact b18) (by omega) (by omega) (by rw [o3 35 50 (by unfold mdS skS bgS; omega)]; exact b24) (by rw [gi_ni (by decide)]; exact g77) g14 cv (fun j i hj => by
              rw [hcc] at hj
              rw [eD3, hcv j i hj, cfv_fe hf hn37 fe3 (sok j hj).1]) way (fun j hj => by
              rw [hcc] at hj
              rw [hway j hj]
              have iff : (ff (uwq (fun i => os.testBit i) (gi M 74) (gi M 77) (gi M 78) (gi M 79) (gi M 76) (gi M 20 4) (cv j 1) (cv j 2) (cv j 3) (cv j 4)) nh 0 ≠ -1) ↔ (ff (mtB (si N3 35 62 0) (cv j 1) (cv j 2) (cv j 3) (cv j 4)) g 0 ≠ -1) := by
                rw [ff_ex, ff_ex]
                have hb' := hB (cv j 1) (cv j 2) (cv j 3) (cv j 4)
                have g8 : ∀ a x, 84 ≤ a → gi (si N3 35 62 0) a x = gi N3 a x := fun a x q1 => gi_na (by omega)
                constructor
                · rintro ⟨k, -, k2, k3⟩
                  unfold uwq at k3
                  rw [Bool.and_eq_true, decide_eq_true_eq] at k3
                  obtain ⟨k4, k5, k6, k7, k8, k9⟩ := k3
                  obtain ⟨x, x1, x2⟩ := hb'.mpr ⟨k, by omega, k4, by rw [o2t 74 _ (by decide)]; exact k5, by rw [o2t 77 _ (by decide)]; exact k6, by rw [o2t 78 _ (by decide)]; exact k7, by rw [o2t 79 _ (by decide)]; exact k8, by rw [o2t 76 _ (by decide)]; exact k9⟩
                  refine ⟨x, Nat.zero_le x, by omega, ?_⟩
                  unfold mtB
                  rw [g8 84 x (by decide), g8 85 x (by decide), g8 86 x (by decide), g8 87 x (by decide)]
                  exact decide_eq_true x2
                · rintro ⟨x, -, x2, x3⟩
                  unfold mtB at x3
                  rw [g8 84 x (by decide), g8 85 x (by decide), g8 86 x (by decide), g8 87 x (by decide), decide_eq_true_eq] at x3
                  obtain ⟨k, k1, k2, k3, k4, k5, k6, k7⟩ := hb'.mp ⟨x, by omega, x3⟩
                  rw [o2t 74 _ (by decide)] at k3
                  rw [o2t 77 _ (by decide)] at k4
                  rw [o2t 78 _ (by decide)] at k5
                  rw [o2t 79 _ (by decide)] at k6
                  rw [o2t 76 _ (by decide)] at k7
                  refine ⟨k, Nat.zero_le k, by omega, ?_⟩
                  unfold uwq
                  rw [Bool.and_eq_true, decide_eq_true_eq]
                  exact ⟨k2, k3, k4, k5, k6, k7⟩
              by_cases x : ff (mtB (si N3 35 62 0) (cv j 1) (cv j 2) (cv j 3) (cv j 4)) g 0 ≠ -1
              · rw [if_pos x, if_pos (iff.mpr x)]
              · rw [if_neg x, if_neg (fun w => x (iff.mp w))]) may (fun j hj => by rw [hcc] at hj; exact hm j hj) (c : Nat) (fun N4 a4 a5 a6 m4 m5 m6 y4 g4 hA4 => by
              rw [hcc] at g4 hA4
              have h4s := YF_SH y4 t3.1
              -- behind: known by, an empty set
              have yM4 : YF plY M N4 := YF_trans (YF_mono (fun a i w => by unfold bgS mdS skS at w; unfold plY mdS skS; omega) yM3) (YF_mono (fun a i w => by unfold pbS at w; unfold plY mdS skS; omega) y4)
              have yM5 : YF plY M (si (si N4 35 61 (n : Nat)) 35 63 0) := YF_si (by unfold plY; omega) (YF_si (by unfold plY; omega) yM4)
              have h5s := YF_SH yM5 h
              have o5 : ∀ a i, ¬ plY a i → gi (si (si N4 35 61 (n : Nat)) 35 63 0) a i = gi M a i := yM5.2
              have g5t : ∀ a i, a ≠ 35 → gi (si (si N4 35 61 (n : Nat)) 35 63 0) a i = gi N4 a i := fun a i w => by rw [gi_na w, gi_na w]
              have rd5 : RD (si (si N4 35 61 (n : Nat)) 35 63 0) c (fun j => cv j 6) (fun j => cv j 7) (fun j => cv j 8) (fun j => cv j 2) (fun j => cv j 3) way may := ⟨h5s, by rw [gi_ni (by decide), gi_ni (by decide)]; exact g4, hc14, fun j hj => by
                obtain ⟨⟨-, r2, r3, r4, -, -, r7, r8⟩, r9, r10⟩ := hA4 j hj
                rw [g5t 73 _ (by decide), g5t 74 _ (by decide), g5t 75 _ (by decide), g5t 78 _ (by decide), g5t 79 _ (by decide), g5t 80 _ (by decide), g5t 81 _ (by decide)]
                exact ⟨r2, r3, r4, r7, r8, r9, r10⟩⟩
              have hsl : ∀ i j, i ≠ j → i < c → j < c → sel q (cnt (dy M n) W' 288) i ≠ sel q (cnt (dy M n) W' 288) j := fun i j hij hi hj e => by
                rcases Nat.lt_or_ge i j with w | w
                · have := sel_lt (q := q) (K := cnt (dy M n) W' 288) w (by omega); omega
                · have := sel_lt (q := q) (K := cnt (dy M n) W' 288) (show j < i by omega) (by omega); omega
              have hone : ∀ i k, i ≠ k → i < c → k < c → decide (cv k 5 = cv i 5) = alk (fun j => cv j 2) (fun j => cv j 3) i k := fun i k hik hi hk => cfv_one (c := c) hcv hsl hik hi hk
              have hmono : ∀ i j, i < j → j < c → cv i 7 ≤ cv j 7 := fun i j hij hj => by
                have s1 := sel_lt (q := q) (K := cnt (dy M n) W' 288) hij (by omega)
                have s2 : sT (dy M n) W' (sel q (cnt (dy M n) W' 288) i) ≤ sT (dy M n) W' (sel q (cnt (dy M n) W' 288) j) := pk_mono s1 (sok j hj).1
                rw [hcv i 7 (by omega), hcv j 7 hj]
                have e7 : ∀ x, cfv M (dy M n) W' (gi M 20 1) (gi M 20 2) wv x 7 = mMax ((sT (dy M n) W' x : Nat) - gi M 20 1) 0 := fun _ => rfl
                rw [e7, e7]
                unfold mMax
                split <;> split <;> omega
              have tu5 : gi (si (si N4 35 61 (n : Nat)) 35 63 0) 35 46 = gi M 20 0 := by rw [o5 35 46 (by unfold plY mdS skS; omega)]; exact b12
              have ro5 : gi (si (si N4 35 61 (n : Nat)) 35 63 0) 35 49 = gi M 20 3 := by rw [o5 35 49 (by unfold plY mdS skS; omega)]; exact b21
              have fd := y_finds (d := d + 2) (n := c) (B := si (si N4 35 61 (n : Nat)) 35 63 0) (Q := fun v N => v ≠ vj ∧ WP (mc (d + 5)) tX12_plan 416 [vr (some 35), vi (n : Nat), vi (c : Nat), vi (cnt (dy M n) W' 288 : Nat), a4, a5, a6] [v] N Q) (tu := gi M 20 0) (room := gi M 20 3) rd5 SNc tu5 ro5 (gi_same _ _ _ _) (VC c (fun j => cv j 7) (fun j => cv j 8) may (fun i j => decide (cv i 5 = cv j 5)) (gi M 20 0) (gi M 20 3)) (fun s hs => vldQ_iff hs (fun i hi => (SNc i hi).2.1.2.1) hmono (fun i j hji hi => hone i j (by omega) hi (by omega))) (fun s hs => hs.1) ⟨Nat.pow_pos (by decide), fun i _ w => by rw [Nat.zero_testBit] at w; exact absurd w (by decide), by rw [sm_0]; exact b19, fun i _ w => by rw [Nat.zero_testBit] at w; exact absurd w (by decide)⟩ (fun N6 b y6 g6 hbest => ⟨(fun x => by cases x), by
                have h6s := YF_SH y6 h5s
                have o6 : ∀ a i, ¬ (a = 35 ∧ i = 63) → gi N6 a i = gi (si (si N4 35 61 (n : Nat)) 35 63 0) a i := fun a i w => y6.2 a i w
                have rd6 : RD N6 c (fun j => cv j 6) (fun j => cv j 7) (fun j => cv j 8) (fun j => cv j 2) (fun j => cv j 3) way may := RD_f y6.1 (o6 35 62 (by omega)) (fun a i q1 q2 => o6 a i (by omega)) rd5
                have hb4 : b < 16384 := lt16 hc14 hbest.1.1
                have fr' := fun (Q : mV → mM → Prop) => y_roomOf (d := d + 4) (M := N6) (Q := Q) (s := b) rd6 SNc hb4
                have rd7 : RD (si N6 35 64 (sm (spn (fun j => cv j 7) (fun j => cv j 8)) b c)) c (fun j => cv j 6) (fun j => cv j 7) (fun j => cv j 8) (fun j => cv j 2) (fun j => cv j 3) way may := RD_f (M := N6) rfl (gi_ni (by decide)) (fun a i q1 q2 => gi_na (by omega)) rd6
                have yM7 : YF plY M (si N6 35 64 (sm (spn (fun j => cv j 7) (fun j => cv j 8)) b c)) := YF_si (by unfold plY; omega) (YF_trans yM5 (YF_mono (fun a i w => by unfold fdS at w; unfold plY; omega) y6))
                have th : thinM c (fun j => cv j 7) (fun j => cv j 8) (gi M 20 0) b := (thin_iff (fun i hi => (SNc i hi).2.1.2.1) hmono).mp hbest.1.2.2.2
                have lp := y_rs_loop (d := d + 3) (n := c) (b := b) (B := si N6 35 64 (sm (spn (fun j => cv j 7) (fun j => cv j 8)) b c)) (Q := Q) (tu := gi M 20 0) (room := gi M 20 3) (v1 := (n : Nat)) (v2 := (c : Nat)) (v3 := sm (fun j => cv j 6) b c) (a5 := a5) (a6 := a6) rd7 SNc (by rw [gi_ni (by decide)]; exact g6) hbest.1.1 (gi_same _ _ _ _) (by rw [gi_ni (by decide), o6 35 46 (by omega)]; exact tu5) (by rw [gi_ni (by decide), o6 35 49 (by omega)]; exact ro5) (fun N8 y8 hA8 => by
                  have yM8 : YF plY M N8 := YF_trans yM7 (YF_mono (fun a i w => by unfold rsS at w; unfold plY; omega) y8)
                  have o8 : ∀ a i, a ≠ 82 → a ≠ 83 → gi N8 a i = gi (si N6 35 64 (sm (spn (fun j => cv j 7) (fun j => cv j 8)) b c)) a i := fun a i q1 q2 => y8.2 a i (by unfold rsS; omega)
                  have o84 : ∀ a i, a ≠ 82 → a ≠ 83 → a ≠ 35 → gi N8 a i = gi N4 a i := fun a i q1 q2 q3 => by rw [o8 a i q1 q2, gi_na q3, o6 a i (fun w => q3 w.1), g5t a i q3]
                  have t8 : TI N8 := by
                    have y38 : YF (fun a i => (71 ≤ a ∧ a ≤ 87) ∨ (a = 35 ∧ ((61 ≤ i ∧ i ≤ 64) ∨ i = 77))) (si N3 35 62 0) N8 := YF_trans (YF_trans (YF_trans (YF_si (by omega) (YF_si (by omega) (YF_mono (fun a i w => by unfold pbS at w; omega) y4))) (YF_mono (fun a i w => by unfold fdS at w; omega) y6)) (YF_si (by omega) YF_refl)) (YF_mono (fun a i w => by unfold rsS at w; omega) y8)
                    exact TI_YF y38 (fun a i w => by
                      have hk2 := kd_267 t3.1 (a := a) (by omega)
                      refine ⟨by omega, fun v => ?_⟩
                      unfold toldG isRow t35 at v
                      omega) t3
                  refine hQ1 N8 b hc14 yM8 t8 hbest ?_ ?_ ?_ ?_ (fun j hj => ⟨?_, ?_, ?_⟩)
                  · rw [o8 35 61 (by decide) (by decide), gi_ni (by decide), o6 35 61 (by omega), gi_ni (by decide), gi_same]
                  · rw [o8 35 62 (by decide) (by decide), gi_ni (by decide), o6 35 62 (by omega), gi_ni (by decide), gi_ni (by decide)]; exact g4
                  · rw [o8 35 63 (by decide) (by decide), gi_ni (by decide)]; exact g6
                  · rw [o8 35 64 (by decide) (by decide), gi_same]
                  · have := hA4 j hj
                    unfold RW at this ⊢
                    rw [o84 72 _ (by decide) (by decide) (by decide), o84 73 _ (by decide) (by decide) (by decide), o84 74 _ (by decide) (by decide) (by decide), o84 75 _ (by decide) (by decide) (by decide), o84 76 _ (by decide) (by decide) (by decide), o84 77 _ (by decide) (by decide) (by decide), o84 78 _ (by decide) (by decide) (by decide), o84 79 _ (by decide) (by decide) (by decide), o84 80 _ (by decide) (by decide) (by decide), o84 81 _ (by decide) (by decide) (by decide)]
                    exact this
                  · rw [(why_eq (lo := fun j => cv j 5) (may := may) (room := gi M 20 3) SNc hbest.1.1 hj th hone).1]
                    exact (hA8 j hj).1
                  · rw [riv_eq (lo := fun j => cv j 5) (may := may) (room := gi M 20 3) SNc hbest.1.1 hj th hone]
                    exact (hA8 j hj).2) c 0 (si N6 35 64 (sm (spn (fun j => cv j 7) (fun j => cv j 8)) b c)) (by omega) YF_refl (fun j hj => absurd hj (Nat.not_lt_zero j))
                have lp' : WP (mc (d + 5)) tX12_plan 432 [vr (some 35), vi (n : Nat), vi (c : Nat), vi (sm (fun j => cv j 6) b c), vi 0, a5, a6] [] (si N6 35 64 (sm (spn (fun j => cv j 7) (fun j => cv j 8)) b c)) Q := lp
                simp only [↓eX12_plan_416, ↓eX12_plan_417, ↓eX12_plan_418, ↓eX12_plan_419, ↓eX12_plan_420, ↓eX12_plan_423, ↓eX12_plan_426, ↓eX12_plan_429, ↓eX12_plan_430, m4, hk35 h6s, g6, ↓fr', nlI, Int.cast_ofNat_Int, kd_si, gr_si, ln_si, gi_same, gi_na, gi_ni, nl_i, nl_r, nl_j, nj_i, nj_l, nj_r, true_and, and_true, and_self, cs_0, cs_1, cs_2, cs_3, cs_4, ↓reduceIte, Nat.reduceLeDiff, Nat.reduceEqDiff, Nat.reduceAdd, Int.reduceLE, Int.reduceLT, Int.reduceEq, Int.reduceAdd, Int.reduceNeg, Int.reduceToNat, Int.toNat_natCast, ne_eq, not_false_eq_true, not_true_eq_false, or_true, true_or, or_false, false_or]
                exact lp'⟩)
              rw [eD3]
              simp only [↓eX12_plan_402, ↓eX12_plan_403, ↓eX12_plan_404, ↓eX12_plan_407, ↓eX12_plan_408, ↓eX12_plan_409, ↓eX12_plan_412, ↓eX12_plan_413, hk35 h4s, Int.cast_ofNat_Int, kd_si, gr_si, ln_si, gi_same, gi_na, gi_ni, nl_i, nl_r, nl_j, nj_i, nj_l, nj_r, true_and, and_true, and_self, cs_0, cs_1, cs_2, cs_3, cs_4, ↓reduceIte, Nat.reduceLeDiff, Nat.reduceEqDiff, Nat.reduceAdd, Int.reduceLE, Int.reduceLT, Int.reduceEq, Int.reduceAdd, Int.reduceNeg, Int.reduceToNat, Int.toNat_natCast, ne_eq, not_false_eq_true, not_true_eq_false, or_true, true_or, or_false, false_or]
              exact fd) (cnt (dy (si N3 35 62 0) n) W' 288) 0 (si N3 35 62 0) vj vj vj nlJ nlJ nlJ (by omega) YF_refl (by rw [gi_same]; rfl) (fun j hj => absurd hj (Nat.not_lt_zero j))
          have cl' : WP (mc (d + 5)) tX12_plan 64 [vr (some 35), vi (n : Nat), vi (c : Nat), vi 0, vj, vj, vj] [] (si N3 35 62 0) Q := cl
          simp only [↓eX12_plan_57, ↓eX12_plan_58, ↓eX12_plan_59, ↓eX12_plan_62, ↓eX12_plan_63, hk35 h3s, nlI, Int.cast_ofNat_Int, kd_si, gr_si, ln_si, gi_same, gi_na, gi_ni, nl_i, nl_r, nl_j, nj_i, nj_l, nj_r, true_and, and_true, and_self, cs_0, cs_1, cs_2, cs_3, cs_4, ↓reduceIte, Nat.reduceLeDiff, Nat.reduceEqDiff, Nat.reduceAdd, Int.reduceLE, Int.reduceLT, Int.reduceEq, Int.reduceAdd, Int.reduceNeg, Int.reduceToNat, Int.toNat_natCast, ne_eq, not_false_eq_true, not_true_eq_false, or_true, true_or, or_false, false_or]
          exact cl'⟩)
        simp only [↓eX12_plan_44, ↓eX12_plan_45, ↓eX12_plan_47, ↓eX12_plan_50, ↓eX12_plan_52, ↓eX12_plan_53, ↓eX12_plan_54, z', hk35 h2s, Int.cast_ofNat_Int, kd_si, gr_si, ln_si, gi_same, gi_na, gi_ni, nl_i, nl_r, nl_j, nj_i, nj_l, nj_r, true_and, and_true, and_self, cs_0, cs_1, cs_2, cs_3, cs_4, ↓reduceIte, Nat.reduceLeDiff, Nat.reduceEqDiff, Nat.reduceAdd, Int.reduceLE, Int.reduceLT, Int.reduceEq, Int.reduceAdd, Int.reduceNeg, Int.reduceToNat, Int.toNat_natCast, ne_eq, not_false_eq_true, not_true_eq_false, or_true, true_or, or_false, false_or]
        exact bg) (cnt (dy N1 n) W' 288) 0 N1 (by omega) YF_refl
    have ml' : WP (mc (d + 5)) tX12_plan 19 [vr (some 35), vi (n : Nat), vi 0, vi 0, vj, vj, vj] [] N1 Q := ml
    simp only [↓eX12_plan_15, ↓eX12_plan_16, ↓eX12_plan_17, ↓eX12_plan_18, nlI, Int.cast_ofNat_Int, kd_si, gr_si, ln_si, gi_same, gi_na, gi_ni, nl_i, nl_r, nl_j, nj_i, nj_l, nj_r, true_and, and_true, and_self, cs_0, cs_1, cs_2, cs_3, cs_4, ↓reduceIte, Nat.reduceLeDiff, Nat.reduceEqDiff, Nat.reduceAdd, Int.reduceLE, Int.reduceLT, Int.reduceEq, Int.reduceAdd, Int.reduceNeg, Int.reduceToNat, Int.toNat_natCast, ne_eq, not_false_eq_true, not_true_eq_false, or_true, true_or, or_false, false_or]
    exact ml'⟩)
  simp only [↓cpX12_plan, ↓eX12_plan_0, ↓eX12_plan_1, ↓eX12_plan_2, ↓eX12_plan_5, ↓eX12_plan_8, ↓eX12_plan_9, ↓eX12_plan_10, ↓eX12_plan_11, ↓eX12_plan_12, hk35 h, ↓fk, if_pos n1, Int.cast_ofNat_Int, kd_si, gr_si, ln_si, gi_same, gi_na, gi_ni, nl_i, nl_r, nl_j, nj_i, nj_l, nj_r, true_and, and_true, and_self, cs_0, cs_1, cs_2, cs_3, cs_4, ↓reduceIte, Nat.reduceLeDiff, Nat.reduceEqDiff, Nat.reduceAdd, Int.reduceLE, Int.reduceLT, Int.reduceEq, Int.reduceAdd, Int.reduceNeg, Int.reduceToNat, Int.toNat_natCast, ne_eq, not_false_eq_true, not_true_eq_false, or_true, true_or, or_false, false_or]
  exact mk
end PLANY
