/-! ===== plan of the class ===== -/
def plS (M : mM) (s u a i : Nat) : Prop := dayS M a i ∨ a = u + 4 ∨ (a = s ∧ i ≤ 4) ∨ scS a i ∨ ∃ j, j < 14 ∧ gr M (s + 1) j = some a
def plT (s a : Nat) : Prop := a = 14 ∨ a = 0 ∨ a = s + 1
theorem SH_sr0 {N : mM} {o o' : Option Nat} (h : SH N) : SH (sr (sr N 0 7 o) 0 8 o') := by
  obtain ⟨h1, h2, h3, h4⟩ := h
  refine ⟨h1, h2, fun q hq => ?_, h4⟩
  have q1 : ¬ (q.1 = 0 ∧ q.2.1 = 8) := (by decide : ∀ q ∈ rfT, ¬ (q.1 = 0 ∧ q.2.1 = 8)) q hq
  have q2 : ¬ (q.1 = 0 ∧ q.2.1 = 7) := (by decide : ∀ q ∈ rfT, ¬ (q.1 = 0 ∧ q.2.1 = 7)) q hq
  rw [gr_sr, if_neg q1, gr_sr, if_neg q2]
  exact h3 q hq
/-- a frame that keeps what was told -/
theorem TI_pl {M N : mM} {s u : Nat} (hs : s = 31 ∨ s = 33) (hu : u = 21 ∨ u = 26) (hN : SH N) (hP : PC M M s) (h : FRM (fun a i => a = u + 4 ∨ (a = s ∧ i ≤ 4) ∨ scS a i ∨ ∃ j, j < 14 ∧ gr M (s + 1) j = some a) (fun a => a = 0 ∨ a = s + 1) M N) (hT : TI M) : TI N := by
  have h0 := hT.1
  have h8 := h0.2.2.2
  refine TI_cl hN (fun a ha => (h.2.2.1 a ha).1) h.2.2.2.1 (fun a i ha w => h.2.1 a i ha (fun v => ?_)) (fun a i ha w => h.1 a i ha (fun v => ?_)) hT
  · have k := kd_267 h0 (a := a) (by omega)
    unfold toldR at w
    omega
  · unfold scS at v
    by_cases y : a < 88
    · have k := kd_267 h0 y
      unfold toldG isRow t35 at w
      rcases v with v | v | v | ⟨j, hj, v⟩
      · omega
      · omega
      · omega
      · have := (hP.1 j a hj v).2.1; omega
    · rcases v with v | v | v | ⟨j, hj, v⟩
      · omega
      · omega
      · omega
      · have kk := (hP.1 j a hj v).2.2.2
        unfold toldG isRow t35 at w
        omega
/-- what plan leaves of the class -/
def PRC (N : mM) (s n c b : Nat) (cv : Nat → Nat → Int) (way : Nat → Int) (may : Nat → Bool) (tu room : Int) : Prop :=
  gi N s 0 = c ∧ gi N s 1 = n ∧ gi N s 2 = sm (fun _ => 1) b c ∧ gi N s 4 = sm (spn (fun j => cv j 7) (fun j => cv j 8)) b c ∧ ∀ j, j < c → ∃ a, gr N (s + 1) j = some a ∧ (∀ i, i ≤ 8 → gi N a i = cv j i) ∧ gi N a 9 = way j ∧ gi N a 11 = tb b j ∧ gi N a 12 = whyP c b (fun j => cv j 7) (fun j => cv j 8) (fun j => cv j 5) may tu room j ∧ gi N a 13 = rivP c b (fun j => cv j 6) (fun j => cv j 7) (fun j => cv j 8) (fun j => cv j 5) j (whyP c b (fun j => cv j 7) (fun j => cv j 8) (fun j => cv j 5) may tu room j)
section PLANC
variable {d n W s h u R nh : Nat} {M : mM} {Q : mV → mM → Prop} {me : Nat → Env → Int} {mt : Nat → Int} {ch : Nat → Nat} {hin : Nat → Bool} {hf h1 h2 h3 h4 : Nat → Int}
theorem cfv_SN {k : Nat} {B : mM} {D : Nat → Nat → Int} {ld tl : Int} {wv : Nat → Int} (hk : k < cnt D W 288) (hl6 : 0 ≤ ld ∧ ld ≤ 6) (ht6 : 0 ≤ tl ∧ tl ≤ 6) : 0 ≤ cfv B D W ld tl wv k 7 ∧ cfv B D W ld tl wv k 7 < cfv B D W ld tl wv k 8 ∧ cfv B D W ld tl wv k 8 ≤ 288 := by
  have u := sU_ok hk
  have e7 : cfv B D W ld tl wv k 7 = mMax ((sT D W k : Nat) - ld) 0 := rfl
  have e8 : cfv B D W ld tl wv k 8 = mMin ((sU D W k : Nat) + tl) 288 := rfl
  rw [e7, e8]
  unfold mMax mMin
  split <;> split <;> omega
theorem x_planG (hT : TI M) (hP : PAR M) (hhs : (h = 31 ∧ s = 33) ∨ (h = 33 ∧ s = 31)) (g7 : gr M 0 7 = some h) (g8 : gr M 0 8 = some s) (g5 : gr M 0 5 = some u) (hu : u = 21 ∨ u = 26) (hR : gi M u 0 = R) (hR20 : R ≤ 20) (hRU : RU u M R me mt) (hmt : ∀ r, r < R → b9 (mt r)) (hH : HP M h nh ch hin hf h1 h2 h3 h4) (hn : (n : Int) ≤ gi M 1 2) (hW : gi M 1 0 = W)
    (wv : Nat → Int) (hwv : ∀ k, k < cnt (dy M n) W 288 → wv k = wgh me mt (enP M (dy M n) W k) R 0 0) (q : Nat → Bool) (hq : ∀ k, k < cnt (dy M n) W 288 → q k = decide (wv k ≠ 0)) (c : Nat) (hc : c = ctp q (cnt (dy M n) W 288)) (cv : Nat → Nat → Int) (hcv : ∀ j i, cv j i = cfv M (dy M n) W (gi M 20 1) (gi M 20 2) wv (sel q (cnt (dy M n) W 288) j) i)
    (way : Nat → Int) (hw : ∀ j, j < c → way j = if ff (uwq hin hf h1 h2 h3 h4 (gi M 20 4) (cv j 1) (cv j 2) (cv j 3) (cv j 4)) nh 0 ≠ -1 then 1 else 0) (may : Nat → Bool) (hm : ∀ j, j < c → may j = decide (way j = 1 ∨ gi M 20 4 ≤ cv j 7))
    (hQ1 : ∀ N b, c ≤ 14 → FRM (plS M s u) (plT s) M N → TI N → PC M N s → gr N 0 7 = some s → gr N 0 8 = some h → (∀ i, i ≠ 7 → i ≠ 8 → gr N 0 i = gr M 0 i) → nx N ≤ nx M + 614 → bestOf c way (fun j => cv j 6) (spn (fun j => cv j 7) (fun j => cv j 8)) (VC c (fun j => cv j 7) (fun j => cv j 8) may (fun i j => decide (cv i 5 = cv j 5)) (gi M 20 0) (gi M 20 3)) b → PRC N s n c b cv way may (gi M 20 0) (gi M 20 3) → Q (vi (sm (fun j => cv j 6) b c)) N)
    (hQ0 : ∀ N, 14 < c → FRM (plS M s u) (plT s) M N → TI N → PC M N s → (∀ i, gr N 0 i = gr M 0 i) → nx N ≤ nx M + 614 → Q (vi (-2)) N) : CP (mc (d + 19)) 117 [vr (some 0), vi (n : Nat)] M Q := by
  have h0 := hT.1
  have h88 := h0.2.2.2
  have i1 := hT.2.1
  have hf0 := hT.2.2.2.1
  have hs13 : s = 31 ∨ s = 33 := by omega
  have hh13 : h = 31 ∨ h = 33 := by omega
  have pcs : PC M M s := by
    rcases hhs with ⟨-, w⟩ | ⟨-, w⟩
    · rw [w]; exact hP.2.1
    · rw [w]; exact hP.1
  have pch : PC M M h := by
    rcases hhs with ⟨w, -⟩ | ⟨w, -⟩
    · rw [w]; exact hP.1
    · rw [w]; exact hP.2.1
  have pap : ∀ i j a, i < 14 → j < 14 → gr M (h + 1) i = some a → gr M (s + 1) j = some a → False := fun i j a hi hj q1 q2 => by
    rcases hhs with ⟨w, w'⟩ | ⟨w, w'⟩
    · rw [w] at q1; rw [w'] at q2; exact hP.2.2 i j a hi hj q1 q2
    · rw [w] at q1; rw [w'] at q2; exact hP.2.2 j i a hj hi q2 q1
  have fk := fun (Q : mV → mM → Prop) => x_isKnown (d := d + 17) (M := M) (Q := Q) (n := (n : Nat)) h0
  have n1 : 0 ≤ (n : Int) ∧ (n : Int) ≤ gi M 1 2 := ⟨by omega, hn⟩
  have sv := x_sv (d := d + 13) (M := M) (Q := fun v N => v = vj ∧ WP (mc (d + 18)) tX11_plan 25 [vr (some 0), vi (n : Nat), vj] [] N Q) hT hn (fun N1 W' f1 t1 hW' n51 n52 d1 x1 => ⟨rfl, by
    have eW : W' = W := by omega
    subst eW
    have s1 := t1.1
    have h81 := s1.2.2.2
    have ts := dayTS h0
    have fe1 := FRM_fe f1 h0 ts n
    have hn37 : (n : Int) ≤ gi M 35 37 := by have := i1.2.2.1.2.2; omega
    have eD : dy N1 n = dy M n := dyD hf0 hn37 fe1
    have c6 := cnt_600 hf0 hn37 W'
    have i37 := i1.2.2.1
    have hm1 : nx M ≤ nx N1 := f1.2.2.2.1
    -- cells below 88 that the survey leaves
    have lowc : ∀ a i, 16 ≤ a → a < 88 → gi N1 a i = gi M a i := fun a i q1 q2 => f1.1 a i (by omega) (fun w => by
      have := (kd_267 h0 q2).2.1
      unfold dayS isRow at w
      omega)
    have cnd : ∀ a i, 88 ≤ a → a < nx M → kd M a = 0 → gi N1 a i = gi M a i := fun a i q1 q2 q3 => f1.1 a i q2 (fun w => by
      unfold dayS isRow at w
      omega)
    have refs : ∀ a i, a < nx M → a ≠ 14 → gr N1 a i = gr M a i := fun a i q1 q2 => f1.2.1 a i q1 q2
    have pcs1 : PC N1 N1 s := PC_f (fun a ha => (f1.2.2.1 a ha).1) hm1 (fun i => refs _ i (by omega) (by omega)) pcs
    have r5 : gr N1 0 5 = some u := by rw [refs 0 5 (by omega) (by decide)]; exact g5
    have r7 : gr N1 0 7 = some h := by rw [refs 0 7 (by omega) (by decide)]; exact g7
    have r8 : gr N1 0 8 = some s := by rw [refs 0 8 (by omega) (by decide)]; exact g8
    have hlv : ∀ k, k < cnt (dy N1 n) W' 288 → gi N1 63 (sF (dy N1 n) W' k).toNat = 0 ∨ gi N1 63 (sF (dy N1 n) W' k).toNat = 1 := fun k hk => by
      rw [eD] at hk ⊢
      obtain ⟨f, e, z1, z2, -⟩ := sF_n hf0 hn37 hk
      rw [(enP_fe hf0 hn37 fe1 hk).2.2.2.2, e, Int.toNat_natCast]
      exact ((hf0 f (by omega)).2.2.1 z2).2.2.2.2
    obtain ⟨k1, k2, k3, k4⟩ := CB_p (n := 0) (cl := fun _ => 0) s1 hs13
    obtain ⟨kh1, -⟩ := CB_p (n := 0) (cl := fun _ => 0) s1 hh13
    have ku : kd N1 u = 10 := (wsh s1 hu).1
    -- behind gather
    have base : ∀ N2 cc, cc ≤ 14 → GI N1 s u (cfv N1 (dy N1 n) W' (gi M 20 1) (gi M 20 2) wv) (sel q (cnt (dy N1 n) W' 288)) cc N2 → SH N2 ∧ (∀ i, gr N2 0 i = gr N1 0 i) := fun N2 cc hcc hG => by
      have hrf : ∀ q ∈ rfT, ¬ (q.1 = s + 1) := by
        rcases hs13 with rfl | rfl
        · decide
        · decide
      exact ⟨FRM_SH hG.1 s1 hrf, fun i => hG.1.2.1 0 i (by omega) (by omega)⟩
    have ga := x_gather (d := d + 14) (n := n) (W := W') (p := s) (u := u) (R := R) (B := N1) (me := me) (mt := mt) (ld := gi M 20 1) (tl := gi M 20 2) (Q := fun v N => v ≠ vj ∧ WP (mc (d + 18)) tX11_plan 44 [vr (some 0), vi (n : Nat), vj] [v] N Q) s1 hs13 d1 t1.2.2.2.2.2.1.1 (by rw [eD]; omega) hlv hu (by rw [lowc u 0 (by omega) (by omega)]; exact hR) hR20 (RU_f (fun i => lowc _ i (by omega) (by omega)) (fun i => lowc _ i (by omega) (by omega)) (fun i _ => lowc _ i (by omega) (by omega)) hRU) hmt (lowc 20 1 (by decide) (by decide)) (lowc 20 2 (by decide) (by decide)) (by have := i1.2.2.2.2.1; omega) (by have := i1.2.2.2.2.2.1; omega) pcs1 wv (fun k hk => by
        rw [eD] at hk ⊢
        rw [hwv k hk, (enP_fe hf0 hn37 fe1 hk).1]) q (fun k hk => by rw [eD] at hk; exact hq k hk) (fun N2 hc14 hG => ⟨(fun x => by cases x), ?_⟩) (fun N2 hc14 hG => ⟨(fun x => by cases x), ?_⟩)
    · simp only [↓eX11_plan_25, ↓eX11_plan_26, ↓eX11_plan_29, ↓eX11_plan_30, ↓eX11_plan_33, ↓eX11_plan_34, ↓eX11_plan_37, ↓eX11_plan_38, ↓eX11_plan_41, hk0 s1, r5, r8, hr0_1 s1, hr0_4 s1, k1, hk5 s1, ku, Int.cast_ofNat_Int, kd_si, gr_si, ln_si, gi_same, gi_na, gi_ni, nl_i, nl_r, nl_j, nj_i, nj_l, nj_r, true_and, and_true, and_self, cs_0, cs_1, cs_2, cs_3, cs_4, ↓reduceIte, Nat.reduceLeDiff, Nat.reduceEqDiff, Nat.reduceAdd, Int.reduceLE, Int.reduceLT, Int.reduceEq, Int.reduceAdd, Int.reduceNeg, Int.reduceToNat, Int.toNat_natCast, ne_eq, not_false_eq_true, not_true_eq_false, or_true, true_or, or_false, false_or]
      exact ga
    · -- the candidates stand
      have hc' : ctp q (cnt (dy N1 n) W' 288) = c := by rw [eD]; exact hc.symm
      rw [hc'] at hc14 hG
      obtain ⟨s2, z2⟩ := base N2 c hc14 hG
      obtain ⟨G1, G2, G3, G4, G5, G6⟩ := hG
      have hm2 : nx N1 ≤ nx N2 := G1.2.2.2.1
      have lowc2 : ∀ a i, 16 ≤ a → a < 88 → a ≠ u + 4 → a ≠ s → gi N2 a i = gi M a i := fun a i q1 q2 q3 q4 => by
        rw [G1.1 a i (by omega) (fun w => by
          rcases w with w | ⟨w, -⟩ | ⟨j, hj, w⟩
          · exact q3 w
          · exact q4 w
          · have := (pcs1.1 j a hj w).2.1; omega), lowc a i q1 q2]
      have sok : ∀ j, j < c → sel q (cnt (dy M n) W' 288) j < cnt (dy M n) W' 288 ∧ q (sel q (cnt (dy M n) W' 288) j) = true := fun j hj => by
        obtain ⟨a, b, -⟩ := sel_ok (q := q) (cnt (dy M n) W' 288) j (by omega)
        exact ⟨a, b⟩
      have cvs : ∀ j i, j < c → cfv N1 (dy N1 n) W' (gi M 20 1) (gi M 20 2) wv (sel q (cnt (dy N1 n) W' 288) j) i = cv j i := fun j i hj => by
        rw [eD, cfv_fe hf0 hn37 fe1 (sok j hj).1, hcv]
      have SNc : SN c (fun j => cv j 6) (fun j => cv j 7) (fun j => cv j 8) way := fun j hj => by
        obtain ⟨a, b⟩ := sok j hj
        refine ⟨?_, ?_, ?_⟩
        · have e6 : cv j 6 = wv (sel q (cnt (dy M n) W' 288) j) := by rw [hcv]; rfl
          have b9w : b9 (wv (sel q (cnt (dy M n) W' 288) j)) := by rw [hwv _ a]; exact wgh_bd hmt R 0 0 (by omega) ⟨by decide, by decide⟩
          rw [hq _ a, decide_eq_true_eq] at b
          show 1 ≤ cv j 6 ∧ cv j 6 ≤ 9999
          rw [e6]
          obtain ⟨b1, b2⟩ := b9w
          omega
        · show 0 ≤ cv j 7 ∧ cv j 7 < cv j 8 ∧ cv j 8 ≤ 288
          rw [hcv, hcv]
          exact cfv_SN a (by have := i1.2.2.2.2.1; omega) (by have := i1.2.2.2.2.2.1; omega)
        · rw [hw j hj]
          split
          · exact Or.inr rfl
          · exact Or.inl rfl
      obtain ⟨cl, hcl⟩ : ∃ cl : Nat → Nat, ∀ j, j < c → gr N2 (s + 1) j = some (cl j) ∧ ∀ i, i ≤ 8 → gi N2 (cl j) i = cv j i := ⟨fun j => (gr N2 (s + 1) j).getD 0, fun j hj => by
        obtain ⟨a, a1, a2⟩ := G6 j hj
        have e : (gr N2 (s + 1) j).getD 0 = a := by rw [a1]; rfl
        refine ⟨?_, fun i hi => ?_⟩
        · show gr N2 (s + 1) j = some ((gr N2 (s + 1) j).getD 0)
          rw [e]; exact a1
        · show gi N2 ((gr N2 (s + 1) j).getD 0) i = _
          rw [e, ← cvs j i hj]; exact a2 i hi⟩
      have clc : ∀ j, j < c → (gr N1 (s + 1) j = some (cl j) ∨ nx N1 ≤ cl j) ∧ 88 ≤ cl j ∧ cl j < nx N2 ∧ kd N2 (cl j) = 0 := fun j hj => G5.1 j (cl j) (by omega) (hcl j hj).1
      have cb2 : CB N2 s c cl := ⟨hs13, hc14, G3, fun j hj => ⟨(hcl j hj).1, (clc j hj).2.2.2, (clc j hj).2.1⟩, fun i j hi hj e => G5.2 i j (cl i) (by omega) (by omega) (hcl i hi).1 (by rw [e]; exact (hcl j hj).1)⟩
      have cg2 : CG N2 c cl (fun j => cv j 1) (fun j => cv j 2) (fun j => cv j 3) (fun j => cv j 4) (fun j => cv j 5) (fun j => cv j 6) (fun j => cv j 7) (fun j => cv j 8) := fun j hj => ⟨⟨(hcl j hj).2 1 (by decide), (hcl j hj).2 2 (by decide), (hcl j hj).2 3 (by decide), (hcl j hj).2 4 (by decide)⟩, (hcl j hj).2 5 (by decide), (hcl j hj).2 6 (by decide), (hcl j hj).2 7 (by decide), (hcl j hj).2 8 (by decide)⟩
      obtain ⟨⟨y1, y2, y3, y4, y5⟩, y6⟩ := hH
      have chc : ∀ i, i < nh → gr M (h + 1) i = some (ch i) ∧ 88 ≤ ch i ∧ ch i < nx M ∧ kd M (ch i) = 0 := fun i hi => by
        obtain ⟨a1, a2, a3⟩ := y4 i hi
        exact ⟨a1, a3, (pch.1 i (ch i) (by omega) a1).2.2.1, a2⟩
      have chg : ∀ i m, i < nh → gi N2 (ch i) m = gi M (ch i) m := fun i m hi => by
        obtain ⟨a1, a2, a3, a4⟩ := chc i hi
        rw [G1.1 (ch i) m (by omega) (fun w => by
          rcases w with w | ⟨w, -⟩ | ⟨j, hj, w⟩
          · omega
          · omega
          · rw [refs _ j (by omega) (by omega)] at w
            exact pap i j (ch i) (by omega) hj a1 w), cnd _ m a2 a3 a4]
      have hH2 : HP N2 h nh ch hin hf h1 h2 h3 h4 := ⟨⟨y1, y2, by rw [lowc2 h 0 (by omega) (by omega) (by omega) (by omega)]; exact y3, fun i hi => by
        obtain ⟨a1, a2, a3, a4⟩ := chc i hi
        refine ⟨?_, ?_, a2⟩
        · rw [G1.2.1 _ i (by omega) (by omega), refs _ i (by omega) (by omega)]; exact a1
        · rw [(G1.2.2.1 _ (by omega)).1, (f1.2.2.1 _ a3).1]; exact a4, y5⟩, fun i hi => by
        rw [chg i 11 hi, chg i 7 hi, chg i 1 hi, chg i 2 hi, chg i 3 hi, chg i 4 hi]
        exact y6 i hi⟩
      have apc : ∀ i j, i < nh → j < c → ch i ≠ cl j := fun i j hi hj e => by
        obtain ⟨a1, a2, a3, a4⟩ := chc i hi
        rcases (clc j hj).1 with w | w
        · rw [refs _ j (by omega) (by omega), ← e] at w
          exact pap i j (ch i) (by omega) (by omega) a1 w
        · omega
      have r52 : gr N2 0 5 = some u := by rw [z2]; exact r5
      have r72 : gr N2 0 7 = some h := by rw [z2]; exact r7
      have r82 : gr N2 0 8 = some s := by rw [z2]; exact r8
      obtain ⟨k12, -⟩ := CB_p (n := 0) (cl := fun _ => 0) s2 hs13
      have now2 : gi N2 20 4 = gi M 20 4 := lowc2 20 4 (by decide) (by decide) (by omega) (by omega)
      have pr := x_prepare (d := d + 15) (B := N2) (Q := fun v N => v = vj ∧ WP (mc (d + 18)) tX11_plan 68 [vr (some 0), vi (n : Nat), vj] [] N Q) (now := gi M 20 4) s2 cb2 cg2 hH2 apc SNc hw hm (fun N3 Y3 A3 => ⟨rfl, ?_⟩)
      · simp only [↓eX11_plan_44, ↓eX11_plan_47, ↓eX11_plan_49, ↓eX11_plan_50, ↓eX11_plan_51, ↓eX11_plan_54, ↓eX11_plan_55, ↓eX11_plan_58, ↓eX11_plan_59, ↓eX11_plan_62, ↓eX11_plan_65, hk0 s2, hk20 s2, r72, r82, hr0_4 s2, k12, now2, Int.cast_ofNat_Int, kd_si, gr_si, ln_si, gi_same, gi_na, gi_ni, nl_i, nl_r, nl_j, nj_i, nj_l, nj_r, true_and, and_true, and_self, cs_0, cs_1, cs_2, cs_3, cs_4, ↓reduceIte, Nat.reduceLeDiff, Nat.reduceEqDiff, Nat.reduceAdd, Int.reduceLE, Int.reduceLT, Int.reduceEq, Int.reduceAdd, Int.reduceNeg, Int.reduceToNat, Int.toNat_natCast, ne_eq, not_false_eq_true, not_true_eq_false, or_true, true_or, or_false, false_or]
        exact pr
      · have s3 := YF_SH Y3 s2
        obtain ⟨k13, -⟩ := CB_p (n := 0) (cl := fun _ => 0) s3 hs13
        have g3 : ∀ a i, a < 88 → gi N3 a i = gi N2 a i := fun a i ha => Y3.2 a i (fun w => by
          obtain ⟨-, j, hj, e⟩ := w
          have := (clc j hj).2.1
          omega)
        have r83 : gr N3 0 8 = some s := by rw [YF_r Y3]; exact r82
        have cb3 := CB_f Y3.1 (g3 s 0 (by omega)) cb2
        have chs := x_choose (d := d + (14 - c)) (B := N3) (Q := fun v N => v = vj ∧ WP (mc (d + 18)) tX11_plan 79 [vr (some 0), vi (n : Nat), vj] [] N Q) (tu := gi M 20 0) (room := gi M 20 3) A3 cb3 SNc s3 (by rw [g3 20 0 (by decide), lowc2 20 0 (by decide) (by decide) (by omega) (by omega)]) (by rw [g3 20 3 (by decide), lowc2 20 3 (by decide) (by decide) (by omega) (by omega)]) (by have := i1.2.2.2.2.2.2.1; omega) (fun N4 b Y4 hb m2 m3 m4 mA => ⟨rfl, ?_⟩)
        · rw [show d + (14 - c) + c + 4 = d + 18 by omega] at chs
          simp only [↓eX11_plan_68, ↓eX11_plan_69, ↓eX11_plan_72, ↓eX11_plan_73, ↓eX11_plan_76, hk0 s3, hk20 s3, r83, hr0_4 s3, k13, Int.cast_ofNat_Int, kd_si, gr_si, ln_si, gi_same, gi_na, gi_ni, nl_i, nl_r, nl_j, nj_i, nj_l, nj_r, true_and, and_true, and_self, cs_0, cs_1, cs_2, cs_3, cs_4, ↓reduceIte, Nat.reduceLeDiff, Nat.reduceEqDiff, Nat.reduceAdd, Int.reduceLE, Int.reduceLT, Int.reduceEq, Int.reduceAdd, Int.reduceNeg, Int.reduceToNat, Int.toNat_natCast, ne_eq, not_false_eq_true, not_true_eq_false, or_true, true_or, or_false, false_or]
          exact chs
        · have s4 := YF_SH Y4 s3
          obtain ⟨k14, -⟩ := CB_p (n := 0) (cl := fun _ => 0) s4 hs13
          have r84 : gr N4 0 8 = some s := by rw [YF_r Y4]; exact r83
          have g4c : ∀ j m, j < c → m ≠ 11 → gi N4 (cl j) m = gi N3 (cl j) m := fun j m hj hm' => Y4.2 _ _ (fun w => by
            have := (clc j hj).2.1
            unfold scS stS at w
            rcases w with w | w | ⟨w, -⟩
            · omega
            · omega
            · exact hm' w)
          have g3c : ∀ j m, m ≤ 8 → gi N3 (cl j) m = gi N2 (cl j) m := fun j m hm' => Y3.2 _ _ (fun w => by have := w.1; omega)
          have g20 : ∀ i, i < 5 → gi N4 20 i = gi M 20 i := fun i hi => by
            rw [Y4.2 20 i (fun w => by
              unfold scS stS at w
              rcases w with w | w | ⟨-, j, hj, w⟩
              · omega
              · omega
              · have := (clc j hj).2.1; omega), g3 20 i (by decide), lowc2 20 i (by decide) (by decide) (by omega) (by omega)]
          have g40 : gi N4 s 0 = c ∧ gi N4 s 1 = n := by
            have e : ∀ i, i ≤ 1 → gi N4 s i = gi N2 s i := fun i hi => by
              rw [Y4.2 s i (fun w => by
                unfold scS stS at w
                rcases w with w | w | ⟨-, j, hj, w⟩
                · omega
                · omega
                · have := (clc j hj).2.1; omega), g3 s i (by omega)]
            exact ⟨by rw [e 0 (by decide)]; exact G3, by rw [e 1 (by decide), G4]; exact n51⟩
          have cx4 : CX N4 s c cl (fun j => cv j 6) (fun j => cv j 7) (fun j => cv j 8) (fun j => cv j 5) may b := ⟨s4, CB_f Y4.1 (by rw [g40.1, g3 s 0 (by omega)]; exact G3.symm) cb3, fun j hj => by
            obtain ⟨-, ⟨j6, j7, j8, j9, j10⟩, -⟩ := A3.2.2.2 j hj
            refine ⟨?_, ?_, ?_, ?_, ?_, mA j hj⟩
            · rw [g4c j 5 hj (by decide), g3c j 5 (by decide)]; exact (hcl j hj).2 5 (by decide)
            · rw [g4c j 6 hj (by decide)]; exact j6
            · rw [g4c j 7 hj (by decide)]; exact j7
            · rw [g4c j 8 hj (by decide)]; exact j8
            · rw [g4c j 10 hj (by decide)]; exact j10⟩
          have ex := x_explain (d := d + 13) (B := N4) (Q := fun v N => v = vj ∧ WP (mc (d + 18)) tX11_plan 90 [vr (some 0), vi (n : Nat), vj] [] N Q) (tu := gi M 20 0) (room := gi M 20 3) cx4 SNc m4 (g20 0 (by decide)) (g20 3 (by decide)) (fun N5 Y5 hA5 => ⟨rfl, ?_⟩)
          · simp only [↓eX11_plan_79, ↓eX11_plan_80, ↓eX11_plan_83, ↓eX11_plan_84, ↓eX11_plan_87, hk0 s4, hk20 s4, r84, hr0_4 s4, k14, Int.cast_ofNat_Int, kd_si, gr_si, ln_si, gi_same, gi_na, gi_ni, nl_i, nl_r, nl_j, nj_i, nj_l, nj_r, true_and, and_true, and_self, cs_0, cs_1, cs_2, cs_3, cs_4, ↓reduceIte, Nat.reduceLeDiff, Nat.reduceEqDiff, Nat.reduceAdd, Int.reduceLE, Int.reduceLT, Int.reduceEq, Int.reduceAdd, Int.reduceNeg, Int.reduceToNat, Int.toNat_natCast, ne_eq, not_false_eq_true, not_true_eq_false, or_true, true_or, or_false, false_or]
            exact ex
          · have s5 := YF_SH Y5 s4
            obtain ⟨k15, -⟩ := CB_p (n := 0) (cl := fun _ => 0) s5 hs13
            have r85 : gr N5 0 8 = some s := by rw [YF_r Y5]; exact r84
            have r75 : gr N5 0 7 = some h := by rw [YF_r Y5, YF_r Y4, YF_r Y3]; exact r72
            have g5s : ∀ i, gi N5 s i = gi N4 s i := fun i => Y5.2 s i (fun w => by
              obtain ⟨-, j, hj, e⟩ := w
              have := (clc j hj).2.1
              omega)
            have g53 : gi N5 s 3 = sm (fun j => cv j 6) b c := by rw [g5s]; exact m3
            have n5 : nx N5 = nx N2 := by rw [YF_n Y5, YF_n Y4, YF_n Y3]
            have r5s : ∀ a i, gr N5 a i = gr N2 a i := fun a i => by rw [YF_r Y5, YF_r Y4, YF_r Y3]
            have k5s : ∀ a, kd N5 a = kd N2 a := fun a => by rw [YF_k Y5, YF_k Y4, YF_k Y3]
            -- the whole frame behind the survey
            have F5 : FRM (fun a i => a = u + 4 ∨ (a = s ∧ i ≤ 4) ∨ scS a i ∨ ∃ j, j < 14 ∧ gr N1 (s + 1) j = some a) (fun a => a = 0 ∨ a = s + 1) N1 (sr (sr N5 0 7 (some s)) 0 8 (some h)) := by
              have inc : ∀ a j, a < nx N1 → j < c → a = cl j → ∃ j, j < 14 ∧ gr N1 (s + 1) j = some a := fun a j ha hj e => by
                rcases (clc j hj).1 with w | w
                · exact ⟨j, by omega, by rw [e]; exact w⟩
                · omega
              refine FRM_sr (fun _ => Or.inl rfl) (FRM_sr (fun _ => Or.inl rfl) ?_)
              refine FRM_trans (FRM_trans (FRM_trans (FRM_mono G1 (fun a i ha w => ?_) (fun a ha w => Or.inr w)) (YF_FRM Y3) (fun a i ha w => ?_) (fun a _ w => w.elim)) (YF_FRM Y4) (fun a i ha w => ?_) (fun a _ w => w.elim)) (YF_FRM Y5) (fun a i ha w => ?_) (fun a _ w => w.elim)
              · rcases w with w | ⟨w, w'⟩ | w
                · exact Or.inl w
                · exact Or.inr (Or.inl ⟨w, by omega⟩)
                · exact Or.inr (Or.inr (Or.inr w))
              · obtain ⟨-, j, hj, e⟩ := w
                exact Or.inr (Or.inr (Or.inr (inc a j ha hj e)))
              · rcases w with w | w | ⟨-, j, hj, e⟩
                · exact Or.inr (Or.inr (Or.inl w))
                · exact Or.inr (Or.inl ⟨w.1, w.2.2⟩)
                · exact Or.inr (Or.inr (Or.inr (inc a j ha hj e)))
              · obtain ⟨-, j, hj, e⟩ := w
                exact Or.inr (Or.inr (Or.inr (inc a j ha hj e)))
            have s6 : SH (sr (sr N5 0 7 (some s)) 0 8 (some h)) := SH_sr0 s5
            have t6 := TI_pl hs13 hu s6 pcs1 F5 t1
            have np0 : (s + 1 : Nat) ≠ 0 := by omega
            have rs : ∀ j, gr (sr (sr N5 0 7 (some s)) 0 8 (some h)) (s + 1) j = gr N2 (s + 1) j := fun j => by rw [gr_na np0, gr_na np0, r5s]
            have fin := hQ1 (sr (sr N5 0 7 (some s)) 0 8 (some h)) b hc14 (FRM_trans (FRM_mono f1 (fun a i _ w => Or.inl w) (fun a _ w => Or.inl w)) F5 (fun a i ha w => by
                rcases w with w | w | w | ⟨j, hj, w⟩
                · exact Or.inr (Or.inl w)
                · exact Or.inr (Or.inr (Or.inl w))
                · exact Or.inr (Or.inr (Or.inr (Or.inl w)))
                · exact Or.inr (Or.inr (Or.inr (Or.inr ⟨j, hj, by rw [refs _ j (by omega) (by omega)] at w; exact w⟩)))) (fun a _ w => Or.inr w)) t6 ⟨fun j a hj hja => by
                rw [rs] at hja
                obtain ⟨a1, a2, a3, a4⟩ := G5.1 j a hj hja
                refine ⟨?_, a2, by show a < nx N5; omega, by show kd N5 a = 0; rw [k5s]; exact a4⟩
                rcases a1 with w | w
                · exact Or.inl (by rw [refs _ j (by omega) (by omega)] at w; exact w)
                · exact Or.inr (by omega), fun i j a hi hj q1 q2 => by
                rw [rs] at q1 q2
                exact G5.2 i j a hi hj q1 q2⟩ (by rw [gr_ni (by decide), gr_same]) (gr_same _ _ _ _) (fun i q1 q2 => by rw [gr_ni q2, gr_ni q1, r5s, z2, refs 0 i (by omega) (by decide)]) (by show nx N5 ≤ _; omega) hb ⟨by show gi N5 s 0 = _; rw [g5s]; exact g40.1, by show gi N5 s 1 = _; rw [g5s]; exact g40.2, by show gi N5 s 2 = _; rw [g5s]; exact m2, by show gi N5 s 4 = _; rw [g5s]; exact m4, fun j hj => by
                have g5c : ∀ m, m ≠ 12 → m ≠ 13 → gi N5 (cl j) m = gi N4 (cl j) m := fun m q1 q2 => Y5.2 _ _ (fun w => by have := w.1; omega)
                refine ⟨cl j, by rw [rs]; exact (hcl j hj).1, fun i hi => ?_, ?_, ?_, (hA5 j hj).1, (hA5 j hj).2⟩
                · show gi N5 (cl j) i = _
                  rw [g5c i (by omega) (by omega), g4c j i hj (by omega), g3c j i hi]
                  exact (hcl j hj).2 i hi
                · show gi N5 (cl j) 9 = _
                  rw [g5c 9 (by decide) (by decide), g4c j 9 hj (by decide)]
                  exact (A3.2.2.2 j hj).2.1.2.2.2.1
                · show gi N5 (cl j) 11 = _
                  rw [g5c 11 (by decide) (by decide)]
                  exact mA j hj⟩
            have g7s : gr (sr (sr N5 0 7 (some s)) 0 8 (some h)) 0 7 = some s := by rw [gr_ni (by decide), gr_same]
            have k0s : ∀ (o o' : Option Nat) a, kd (sr (sr N5 0 7 o) 0 8 o') a = kd N5 a := fun _ _ _ => rfl
            have g3s : ∀ (o o' : Option Nat), gi (sr (sr N5 0 7 o) 0 8 o') s 3 = gi N5 s 3 := fun _ _ => rfl
            simp only [↓eX11_plan_90, ↓eX11_plan_91, ↓eX11_plan_94, ↓eX11_plan_95, ↓eX11_plan_96, ↓eX11_plan_97, ↓eX11_plan_100, ↓eX11_plan_103, ↓eX11_plan_104, ↓eX11_plan_105, ↓eX11_plan_108, ↓eX11_plan_109, ↓eX11_plan_112, ↓eX11_plan_115, hk0 s5, r75, r85, kd_sr, gr_same, g7s, g3s, k0s, k15, g53, Int.cast_ofNat_Int, kd_si, gr_si, ln_si, gi_same, gi_na, gi_ni, nl_i, nl_r, nl_j, nj_i, nj_l, nj_r, true_and, and_true, and_self, cs_0, cs_1, cs_2, cs_3, cs_4, ↓reduceIte, Nat.reduceLeDiff, Nat.reduceEqDiff, Nat.reduceAdd, Int.reduceLE, Int.reduceLT, Int.reduceEq, Int.reduceAdd, Int.reduceNeg, Int.reduceToNat, Int.toNat_natCast, ne_eq, not_false_eq_true, not_true_eq_false, or_true, true_or, or_false, false_or]
            exact fin
    · -- too many
      have hc' : 14 < c := by rw [eD] at hc14; omega
      obtain ⟨s2, z2⟩ := base N2 14 (Nat.le_refl 14) hG
      obtain ⟨G1, G2, G3, G4, G5, G6⟩ := hG
      have F5 : FRM (fun a i => a = u + 4 ∨ (a = s ∧ i ≤ 4) ∨ scS a i ∨ ∃ j, j < 14 ∧ gr N1 (s + 1) j = some a) (fun a => a = 0 ∨ a = s + 1) N1 N2 := FRM_mono G1 (fun a i ha w => by
        rcases w with w | ⟨w, w'⟩ | w
        · exact Or.inl w
        · exact Or.inr (Or.inl ⟨w, by omega⟩)
        · exact Or.inr (Or.inr (Or.inr w))) (fun a ha w => Or.inr w)
      have hm2 : nx N1 ≤ nx N2 := G1.2.2.2.1
      have fin := hQ0 N2 hc' (FRM_trans (FRM_mono f1 (fun a i _ w => Or.inl w) (fun a _ w => Or.inl w)) F5 (fun a i ha w => by
          rcases w with w | w | w | ⟨j, hj, w⟩
          · exact Or.inr (Or.inl w)
          · exact Or.inr (Or.inr (Or.inl w))
          · exact Or.inr (Or.inr (Or.inr (Or.inl w)))
          · exact Or.inr (Or.inr (Or.inr (Or.inr ⟨j, hj, by rw [refs _ j (by omega) (by omega)] at w; exact w⟩)))) (fun a _ w => Or.inr w)) (TI_pl hs13 hu s2 pcs1 F5 t1) ⟨fun j a hj hja => by
          obtain ⟨a1, a2, a3, a4⟩ := G5.1 j a hj hja
          refine ⟨?_, a2, a3, a4⟩
          rcases a1 with w | w
          · exact Or.inl (by rw [refs _ j (by omega) (by omega)] at w; exact w)
          · exact Or.inr (by omega), G5.2⟩ (fun i => by rw [z2, refs 0 i (by omega) (by decide)]) (by omega)
      simp only [↓eX11_plan_44, ↓eX11_plan_47, ↓eX11_plan_49, Int.cast_ofNat_Int, kd_si, gr_si, ln_si, gi_same, gi_na, gi_ni, nl_i, nl_r, nl_j, nj_i, nj_l, nj_r, true_and, and_true, and_self, cs_0, cs_1, cs_2, cs_3, cs_4, ↓reduceIte, Nat.reduceLeDiff, Nat.reduceEqDiff, Nat.reduceAdd, Int.reduceLE, Int.reduceLT, Int.reduceEq, Int.reduceAdd, Int.reduceNeg, Int.reduceToNat, Int.toNat_natCast, ne_eq, not_false_eq_true, not_true_eq_false, or_true, true_or, or_false, false_or]
      exact fin⟩)
  simp only [↓cpX11_plan, ↓eX11_plan_0, ↓eX11_plan_1, ↓eX11_plan_4, ↓eX11_plan_5, ↓eX11_plan_8, ↓eX11_plan_11, ↓eX11_plan_12, ↓eX11_plan_13, ↓eX11_plan_14, ↓eX11_plan_17, ↓eX11_plan_18, ↓eX11_plan_21, ↓eX11_plan_22, hk0 h0, hr0_0 h0, hr0_1 h0, hk1 h0, hk5 h0, ↓fk, if_pos n1, Int.cast_ofNat_Int, kd_si, gr_si, ln_si, gi_same, gi_na, gi_ni, nl_i, nl_r, nl_j, nj_i, nj_l, nj_r, true_and, and_true, and_self, cs_0, cs_1, cs_2, cs_3, cs_4, ↓reduceIte, Nat.reduceLeDiff, Nat.reduceEqDiff, Nat.reduceAdd, Int.reduceLE, Int.reduceLT, Int.reduceEq, Int.reduceAdd, Int.reduceNeg, Int.reduceToNat, Int.toNat_natCast, ne_eq, not_false_eq_true, not_true_eq_false, or_true, true_or, or_false, false_or]
  exact sv
end PLANC
