/-! ===== the pair plan ===== -/
def GROW (M R : mM) : Prop := nx M ≤ nx R ∧ nx R ≤ nx M + 614 ∧ zs R + 20 * nx M ≤ zs M + 20 * nx R
/-- class and reference answer alike, and what holds between calls holds again -/
def PAIR (y y' : Nat) (as : List mV) : Prop := ∀ M, INV M → CP (mc 19) y (vr (some 0) :: as) M (fun v N => ∃ z, v = vi z ∧ CP (mc 19) y' (vr (some 35) :: as) N (fun w R => w = vi z ∧ INV R ∧ GROW M R))
def REST4 (M : mM) : Prop := I2 M ∧ I2b M ∧ WI M ∧ KY M
def restT (a i : Nat) : Prop := (a = 16 ∧ i = 0) ∨ a = 17 ∨ (a = 35 ∧ (i = 2 ∨ i = 18)) ∨ a = 36 ∨ (21 ≤ a ∧ a ≤ 24) ∨ (26 ≤ a ∧ a ≤ 29) ∨ (42 ≤ a ∧ a ≤ 53)
theorem REST4_f {M N : mM} (hr : ∀ i, i = 5 ∨ i = 6 → gr N 0 i = gr M 0 i) (hg : ∀ a i, restT a i → gi N a i = gi M a i) (h : REST4 M) : REST4 N := by
  obtain ⟨h1, h2, h3, h4⟩ := h
  have g16 : gi N 16 0 = gi M 16 0 := hg 16 0 (by unfold restT; omega)
  have g17 : ∀ i, gi N 17 i = gi M 17 i := fun i => hg 17 i (by unfold restT; omega)
  refine ⟨I2_f g16 (hg 35 2 (by unfold restT; omega)) g17 (fun i => hg 36 i (by unfold restT; omega)) h1, ?_, WI_f hr (hg 35 18 (by unfold restT; omega)) (fun a i w => hg a i (by unfold restT; omega)) (fun a i w => hg a i (by unfold restT; omega)) h3, fun k hk => by rw [hg 42 k (by unfold restT; omega)]; exact h4 k hk⟩
  intro i hi
  rw [g16] at hi
  rw [g17]
  exact h2 i hi
theorem tb_bi (s i : Nat) : tb s i = bi (s.testBit i) := rfl
/-- the plan ahead as the class has it -/
theorem PH_HP {M : mM} {h : Nat} (hh : h = 31 ∨ h = 33) (hP : PC M M h) (hH : PH M h) : ∃ (nh os : Nat) (ch : Nat → Nat), OLD M nh os ∧ HP M h nh ch (fun i => os.testBit i) (gi M 74) (gi M 77) (gi M 78) (gi M 79) (gi M 76) := by
  rcases hH with ⟨w1, w2, w3⟩ | ⟨n, s, k, w1, w2, w3, w4, w5, w6, w7, w8, w9, w10⟩
  · exact ⟨0, 0, fun _ => 0, Or.inl ⟨w1, rfl, rfl⟩, ⟨hh, by decide, w3, fun j hj => absurd hj (Nat.not_lt_zero j), fun i j hi => absurd hi (Nat.not_lt_zero i)⟩, fun i hi => absurd hi (Nat.not_lt_zero i)⟩
  · have cell : ∀ j, j < n → gr M (h + 1) j = some ((gr M (h + 1) j).getD 0) := fun j hj => by
      obtain ⟨a, a1, -⟩ := w10 j hj
      rw [a1]; rfl
    refine ⟨n, s, fun j => (gr M (h + 1) j).getD 0, Or.inr ⟨by omega, w5, w3, w6, lt16 w3 w7⟩, ⟨hh, w3, w4, fun j hj => ?_, fun i j hi hj e => ?_⟩, fun j hj => ?_⟩
    · obtain ⟨-, b, -, d⟩ := hP.1 j _ (by omega) (cell j hj)
      exact ⟨cell j hj, d, b⟩
    · refine hP.2 i j _ (by omega) (by omega) (cell i hi) ?_
      have e' : (gr M (h + 1) i).getD 0 = (gr M (h + 1) j).getD 0 := e
      rw [e']
      exact cell j hj
    · obtain ⟨a, a1, ⟨-, a2, a3, a4, a5, a6⟩, -, -, a7, -⟩ := w10 j hj
      have e : (gr M (h + 1) j).getD 0 = a := by rw [a1]; rfl
      show gi M ((gr M (h + 1) j).getD 0) 11 = _ ∧ gi M ((gr M (h + 1) j).getD 0) 7 = _ ∧ gi M ((gr M (h + 1) j).getD 0) 1 = _ ∧ gi M ((gr M (h + 1) j).getD 0) 2 = _ ∧ gi M ((gr M (h + 1) j).getD 0) 3 = _ ∧ gi M ((gr M (h + 1) j).getD 0) 4 = _
      rw [e]
      exact ⟨by rw [a7]; rfl, a6, a2, a3, a4, a5⟩
theorem p_plan_k {n : Nat} {M : mM} (hI : INV M) (hn : (n : Int) ≤ gi M 1 2) : CP (mc 19) 117 [vr (some 0), vi (n : Nat)] M (fun v N => ∃ z, v = vi z ∧ CP (mc 19) 177 [vr (some 35), vi (n : Nat)] N (fun w R => w = vi z ∧ INV R ∧ GROW M R)) := by
  obtain ⟨hT, r1, r2, r3, r4, r5⟩ := hI
  have h0 := hT.1
  have h88 := h0.2.2.2
  have i1 := hT.2.1
  have hf := hT.2.2.2.1
  obtain ⟨u, u', sd, R, c0, me, mt, w5, w6, wu, wsd, w18, wu0, wR, wRU, w43, wc, wM, wfr, wmt⟩ := r3
  obtain ⟨par, h, s, x7, x8, xhs, xH⟩ := r5
  have par' := par
  obtain ⟨pc31, pc33, pap⟩ := par'
  have hu : u = 21 ∨ u = 26 := by omega
  have hh : h = 31 ∨ h = 33 := by omega
  have hs13 : s = 31 ∨ s = 33 := by omega
  have pch : PC M M h := by
    rcases xhs with ⟨w, -⟩ | ⟨w, -⟩
    · rw [w]; exact pc31
    · rw [w]; exact pc33
  obtain ⟨nh, os, ch, hO, hHP⟩ := PH_HP hh pch xH
  obtain ⟨W, hW⟩ : ∃ W : Nat, gi M 1 0 = W := ⟨(gi M 1 0).toNat, by have := i1.1; omega⟩
  have hn37 : (n : Int) ≤ gi M 35 37 := by have := i1.2.2.1; omega
  let wv : Nat → Int := fun k => wgh me mt (enP M (dy M n) W k) R 0 0
  let q : Nat → Bool := fun k => decide (wv k ≠ 0)
  let cv : Nat → Nat → Int := fun j i => cfv M (dy M n) W (gi M 20 1) (gi M 20 2) wv (sel q (cnt (dy M n) W 288) j) i
  let way : Nat → Int := fun j => if ff (uwq (fun i => os.testBit i) (gi M 74) (gi M 77) (gi M 78) (gi M 79) (gi M 76) (gi M 20 4) (cv j 1) (cv j 2) (cv j 3) (cv j 4)) nh 0 ≠ -1 then 1 else 0
  let may : Nat → Bool := fun j => decide (way j = 1 ∨ gi M 20 4 ≤ cv j 7)
  -- what the class's plan leaves for the reference
  have pass : ∀ N, FRM (plS M s u) (plT s) M N → TI N → (∀ a i, 35 ≤ a → a < 88 → gi N a i = gi M a i) ∧ gi N 1 2 = gi M 1 2 ∧ gi N 1 0 = gi M 1 0 ∧ (∀ i, i < 5 → gi N 20 i = gi M 20 i) ∧ (∀ a i, 16 ≤ a → a ≤ 19 → gi N a i = gi M a i) ∧ (∀ a i, 21 ≤ a → a ≤ 30 → a ≠ u + 4 → gi N a i = gi M a i) ∧ (∀ i, gi N h i = gi M h i) ∧ (∀ a i, 88 ≤ a → a < nx M → kd M a = 0 → (∀ j, j < 14 → gr M (s + 1) j ≠ some a) → gi N a i = gi M a i) ∧ (∀ i, gr N (h + 1) i = gr M (h + 1) i) := fun N hF tN => by
    have sp : ∀ j a, j < 14 → gr M (s + 1) j = some a → 88 ≤ a := fun j a hj hja => by
      rcases xhs with ⟨-, w⟩ | ⟨-, w⟩
      · rw [w] at hja; exact (pc33.1 j a hj hja).2.1
      · rw [w] at hja; exact (pc31.1 j a hj hja).2.1
    have k6 : ∀ a, a < 88 → kd M a ≠ 6 := fun a ha => (kd_267 h0 ha).2.1
    have g : ∀ a i, a < 88 → ¬ ((a = 5 ∧ i ≤ 2) ∨ isRow a ∨ a = 15 ∨ a = u + 4 ∨ (a = s ∧ i ≤ 4) ∨ scS a i) → gi N a i = gi M a i := fun a i ha hw => hF.1 a i (by omega) (fun v => by
      have := k6 a ha
      unfold plS dayS at v
      rcases v with (v | v | v | v) | v | v | v | ⟨j, hj, v⟩
      · exact hw (Or.inl v)
      · exact hw (Or.inr (Or.inl v))
      · exact hw (Or.inr (Or.inr (Or.inl v)))
      · omega
      · exact hw (Or.inr (Or.inr (Or.inr (Or.inl v))))
      · exact hw (Or.inr (Or.inr (Or.inr (Or.inr (Or.inl v)))))
      · exact hw (Or.inr (Or.inr (Or.inr (Or.inr (Or.inr v)))))
      · have := sp j a hj v; omega)
    refine ⟨fun a i q1 q2 => g a i q2 (by unfold isRow scS; omega), g 1 2 (by decide) (by unfold isRow scS; omega), g 1 0 (by decide) (by unfold isRow scS; omega), fun i hi => g 20 i (by decide) (by unfold isRow scS; omega), fun a i q1 q2 => g a i (by omega) (by unfold isRow scS; omega), fun a i q1 q2 q3 => ?_, fun i => g h i (by omega) (by unfold isRow scS; omega), fun a i q1 q2 q3 q4 => hF.1 a i q2 (fun v => ?_), fun i => hF.2.1 _ i (by omega) (by unfold plT; omega)⟩
    · by_cases y : a = 20
      · omega
      · exact g a i (by omega) (by unfold isRow scS; omega)
    · unfold plS dayS isRow scS at v
      rcases v with (v | v | v | v) | v | v | v | ⟨j, hj, v⟩
      · omega
      · omega
      · omega
      · omega
      · omega
      · omega
      · omega
      · exact q4 j hj v
  have hapart : ∀ i j a, i < 14 → j < 14 → gr M (h + 1) i = some a → gr M (s + 1) j = some a → False := fun i j a hi hj q1 q2 => by
    rcases xhs with ⟨w, w'⟩ | ⟨w, w'⟩
    · rw [w] at q1; rw [w'] at q2; exact pap i j a hi hj q1 q2
    · rw [w] at q1; rw [w'] at q2; exact pap j i a hj hi q2 q1
  -- the reference goes on from there
  have yhyp : ∀ N, FRM (plS M s u) (plT s) M N → TI N → fe n M N ∧ dy N n = dy M n ∧ YW N sd R c0 me mt ∧ OLD N nh os := fun N hF tN => by
    obtain ⟨g35, -, -, -, -, -, -, -, -⟩ := pass N hF tN
    have fen : fe n M N := ⟨fun a k q1 q2 _ => g35 a k (by omega) (by omega), fun s _ => g35 55 s (by decide) (by decide)⟩
    refine ⟨fen, dyD hf hn37 fen, YW_f (g35 35 18 (by decide) (by decide)) (fun a i w => g35 a i (by omega) (by omega)) ⟨wsd, w18, wc, wR, w43, wM, wfr, wmt⟩, ?_⟩
    rcases hO with ⟨o1, o2, o3⟩ | ⟨o1, o2, o3, o4, o5⟩
    · exact Or.inl ⟨by rw [g35 35 61 (by decide) (by decide)]; exact o1, o2, o3⟩
    · exact Or.inr ⟨by rw [g35 35 61 (by decide) (by decide)]; exact o1, by rw [g35 35 62 (by decide) (by decide)]; exact o2, o3, by rw [g35 35 63 (by decide) (by decide)]; exact o4, o5⟩
  -- the rest holds again
  have rest4 : ∀ N R, FRM (plS M s u) (plT s) M N → TI N → (∀ i, i = 5 ∨ i = 6 → gr N 0 i = gr M 0 i) → YF plY N R → REST4 R := fun N R hF tN hr yR => by
    obtain ⟨g35, -, -, -, g16, g21, -, -, -⟩ := pass N hF tN
    refine REST4_f (fun i hi => by rw [YF_r yR]; exact hr i hi) (fun a i w => ?_) ⟨r1, r2, ⟨u, u', sd, _, c0, me, mt, w5, w6, wu, wsd, w18, wu0, wR, wRU, w43, wc, wM, wfr, wmt⟩, r4⟩
    have w' := w
    unfold restT at w'
    rw [yR.2 a i (by unfold plY mdS skS; omega)]
    by_cases y : 35 ≤ a
    · exact g35 a i y (by omega)
    · by_cases y2 : a ≤ 19
      · exact g16 a i (by omega) y2
      · exact g21 a i (by omega) (by omega) (by omega)
  have cp := x_planG (d := 0) (n := n) (W := W) (s := s) (h := h) (u := u) (R := R) (nh := nh) (M := M) (me := me) (mt := mt) (ch := ch) (Q := fun v N => ∃ z, v = vi z ∧ CP (mc 19) 177 [vr (some 35), vi (n : Nat)] N (fun w R => w = vi z ∧ INV R ∧ GROW M R)) hT par xhs x7 x8 w5 hu wu0 wR wRU wmt hHP hn hW wv (fun k _ => rfl) q (fun k _ => rfl) (ctp q (cnt (dy M n) W 288)) rfl cv (fun j i => rfl) way (fun j _ => rfl) may (fun j _ => rfl) (fun N b hc14 hF tN pcN g7 g8 gO nxN hbest hPR => ?_) (fun N hc14 hF tN pcN gO nxN => ?_)
  · exact cp
  · -- a plan
    obtain ⟨g35, g12, g10, g20, g16, g21, gh, gcell, rh⟩ := pass N hF tN
    obtain ⟨fen, eD, ywN, oldN⟩ := yhyp N hF tN
    refine ⟨_, rfl, ?_⟩
    have yp := y_planG (d := 13) (n := n) (W := W) (sd := sd) (R := R) (c0 := c0) (nh := nh) (os := os) (M := N) (me := me) (mt := mt) (Q := fun w R => w = vi (sm (fun j => cv j 6) b (ctp q (cnt (dy M n) W 288))) ∧ INV R ∧ GROW M R) tN ywN oldN (by rw [g12]; exact hn) (by rw [g10]; exact hW) wv (fun k hk => by
        rw [eD] at hk ⊢
        show wgh me mt (enP M (dy M n) W k) R 0 0 = _
        rw [(enP_fe hf hn37 fen hk).1]) q (fun k _ => rfl) (ctp q (cnt (dy M n) W 288)) (by rw [eD]) cv (fun j i hj => by
        have sk := (sel_ok (q := q) (cnt (dy M n) W 288) j hj).1
        rw [eD, g20 1 (by decide), g20 2 (by decide)]
        show cfv M (dy M n) W (gi M 20 1) (gi M 20 2) wv (sel q (cnt (dy M n) W 288) j) i = _
        rw [cfv_fe hf hn37 fen sk]) way (fun j hj => by
        have t : ∀ a, 72 ≤ a → a ≤ 83 → gi N a = gi M a := fun a q1 q2 => by funext i; exact g35 a i (by omega) (by omega)
        rw [t 74 (by decide) (by decide), t 77 (by decide) (by decide), t 78 (by decide) (by decide), t 79 (by decide) (by decide), t 76 (by decide) (by decide), g20 4 (by decide)]) may (fun j hj => by rw [g20 4 (by decide)]) (fun P b' _ yP tP hb' p61 p62 p63 p64 pA => ?_) (fun P hc' _ _ => by omega)
    · exact yp
    · rw [g20 0 (by decide), g20 3 (by decide)] at hb' pA
      have eb : b' = b := best_1 hb' hbest
      subst eb
      obtain ⟨q0, q1, q2, q4, qA⟩ := hPR
      have nxP : nx P = nx N := YF_n yP
      have hmn : nx M ≤ nx N := hF.2.2.2.1
      have gPc : ∀ a i, a < 35 ∨ 88 ≤ a → a ≠ 25 → a ≠ 30 → gi P a i = gi N a i := fun a i w1 w2 w3 => yP.2 a i (by unfold plY mdS skS; omega)
      refine ⟨rfl, ⟨tP, ?_⟩, by omega, by omega, ?_⟩
      · obtain ⟨e1, e2, e3, e4⟩ := rest4 N P hF tN (fun i hi => gO i (by omega) (by omega)) yP
        refine ⟨e1, e2, e3, e4, ?_⟩
        have pcsP : PC P P s := ⟨fun j a hj hja => by
          have hja' := hja
          rw [YF_r yP] at hja'
          obtain ⟨-, a2, a3, a4⟩ := pcN.1 j a hj hja'
          exact ⟨Or.inl hja, a2, by omega, by rw [YF_k yP]; exact a4⟩, fun i j a hi hj z1 z2 => by
          rw [YF_r yP] at z1 z2
          exact pcN.2 i j a hi hj z1 z2⟩
        have pchP : PC P P h := PC_f (M := M) (fun a ha => by rw [YF_k yP]; exact (hF.2.2.1 a ha).1) (by omega) (fun i => by rw [YF_r yP]; exact rh i) pch
        have apP : ∀ i j a, i < 14 → j < 14 → gr P (h + 1) i = some a → gr P (s + 1) j = some a → False := fun i j a hi hj z1 z2 => by
          rw [YF_r yP, rh] at z1
          rw [YF_r yP] at z2
          have lt := (pch.1 i a hi z1).2.2.1
          rcases (pcN.1 j a hj z2).1 with w | w
          · exact hapart i j a hi hj z1 w
          · omega
        refine ⟨?_, s, h, by rw [YF_r yP]; exact g7, by rw [YF_r yP]; exact g8, by omega, ?_⟩
        · rcases xhs with ⟨w, w'⟩ | ⟨w, w'⟩
          · rw [w] at pchP apP; rw [w'] at pcsP apP
            exact ⟨pchP, pcsP, apP⟩
          · rw [w] at pchP apP; rw [w'] at pcsP apP
            exact ⟨pcsP, pchP, fun i j a hi hj z1 z2 => apP j i a hj hi z2 z1⟩
        · have gs : ∀ i, gi P s i = gi N s i := fun i => gPc s i (by omega) (by omega) (by omega)
          refine Or.inr ⟨ctp q (cnt (dy M n) W 288), b', n, p61, by rw [gs]; exact q1, hc14, by rw [gs]; exact q0, p62, p63, hbest.1.1, by rw [gs]; exact q2, by rw [gs, p64]; exact q4, fun j hj => ?_⟩
          obtain ⟨a, a1, a2, a3, a4, a5, a6⟩ := qA j hj
          obtain ⟨⟨⟨m1, m2, m3, m4, m5, m6, m7, m8⟩, m9, m10⟩, m11, m12⟩ := pA j hj
          have a8 := (pcN.1 j a (by omega) a1).2.1
          have ga : ∀ i, gi P a i = gi N a i := fun i => gPc a i (by omega) (by omega) (by omega)
          have w01 : way j = 0 ∨ way j = 1 := by
            show (if _ then (1 : Int) else 0) = 0 ∨ (if _ then (1 : Int) else 0) = 1
            split
            · exact Or.inr rfl
            · exact Or.inl rfl
          refine ⟨a, by rw [YF_r yP]; exact a1, ?_, ?_⟩
          · rw [ga, ga, ga, ga, ga, ga, a2 0 (by decide), a2 1 (by decide), a2 2 (by decide), a2 3 (by decide), a2 4 (by decide), a2 7 (by decide), m1, m6, m7, m8, m5, m3]
            exact ⟨rfl, rfl, rfl, rfl, rfl, rfl⟩
          · rw [ga, ga, ga, ga, a3, a4, a5, a6, m9, m11, m12]
            exact ⟨rfl, w01, rfl, rfl, rfl⟩
      · have z1 := hF.2.2.2.2
        have z2 : zs P = zs N := DF_z (YF_DFk yP)
        omega
  · -- too many
    obtain ⟨g35, g12, g10, g20, g16, g21, gh, gcell, rh⟩ := pass N hF tN
    obtain ⟨fen, eD, ywN, oldN⟩ := yhyp N hF tN
    refine ⟨_, rfl, ?_⟩
    have yp := y_planG (d := 13) (n := n) (W := W) (sd := sd) (R := R) (c0 := c0) (nh := nh) (os := os) (M := N) (me := me) (mt := mt) (Q := fun w R => w = vi (-2) ∧ INV R ∧ GROW M R) tN ywN oldN (by rw [g12]; exact hn) (by rw [g10]; exact hW) wv (fun k hk => by
        rw [eD] at hk ⊢
        show wgh me mt (enP M (dy M n) W k) R 0 0 = _
        rw [(enP_fe hf hn37 fen hk).1]) q (fun k _ => rfl) (ctp q (cnt (dy M n) W 288)) (by rw [eD]) cv (fun j i hj => by
        have sk := (sel_ok (q := q) (cnt (dy M n) W 288) j hj).1
        rw [eD, g20 1 (by decide), g20 2 (by decide)]
        show cfv M (dy M n) W (gi M 20 1) (gi M 20 2) wv (sel q (cnt (dy M n) W 288) j) i = _
        rw [cfv_fe hf hn37 fen sk]) way (fun j hj => by
        have t : ∀ a, 72 ≤ a → a ≤ 83 → gi N a = gi M a := fun a q1 q2 => by funext i; exact g35 a i (by omega) (by omega)
        rw [t 74 (by decide) (by decide), t 77 (by decide) (by decide), t 78 (by decide) (by decide), t 79 (by decide) (by decide), t 76 (by decide) (by decide), g20 4 (by decide)]) may (fun j hj => by rw [g20 4 (by decide)]) (fun P b' hc' _ _ _ _ _ _ _ _ => by omega) (fun P hc' yP tP => ?_)
    · exact yp
    · have yP' : YF plY N P := YF_mono (fun a i w => by unfold plY; rcases w with w | w; exact Or.inl w; exact Or.inr (Or.inl w)) yP
      have nxP : nx P = nx N := YF_n yP
      have hmn : nx M ≤ nx N := hF.2.2.2.1
      refine ⟨rfl, ⟨tP, ?_⟩, by omega, by omega, ?_⟩
      · obtain ⟨e1, e2, e3, e4⟩ := rest4 N P hF tN (fun i hi => gO i) yP'
        refine ⟨e1, e2, e3, e4, ?_⟩
        have pcsP : PC P P s := ⟨fun j a hj hja => by
          have hja' := hja
          rw [YF_r yP] at hja'
          obtain ⟨-, a2, a3, a4⟩ := pcN.1 j a hj hja'
          exact ⟨Or.inl hja, a2, by omega, by rw [YF_k yP]; exact a4⟩, fun i j a hi hj z1 z2 => by
          rw [YF_r yP] at z1 z2
          exact pcN.2 i j a hi hj z1 z2⟩
        have pchP : PC P P h := PC_f (M := M) (fun a ha => by rw [YF_k yP]; exact (hF.2.2.1 a ha).1) (by omega) (fun i => by rw [YF_r yP]; exact rh i) pch
        have apP : ∀ i j a, i < 14 → j < 14 → gr P (h + 1) i = some a → gr P (s + 1) j = some a → False := fun i j a hi hj z1 z2 => by
          rw [YF_r yP, rh] at z1
          rw [YF_r yP] at z2
          have lt := (pch.1 i a hi z1).2.2.1
          rcases (pcN.1 j a hj z2).1 with w | w
          · exact hapart i j a hi hj z1 w
          · omega
        have gPc : ∀ a i, a < 35 ∨ 71 < a → a ≠ 25 → a ≠ 30 → gi P a i = gi N a i := fun a i w1 w2 w3 => yP.2 a i (by unfold mdS skS; omega)
        have gP35 : ∀ i, 61 ≤ i → gi P 35 i = gi N 35 i := fun i w => yP.2 35 i (by unfold mdS skS; omega)
        refine ⟨?_, h, s, by rw [YF_r yP, gO]; exact x7, by rw [YF_r yP, gO]; exact x8, xhs, ?_⟩
        · rcases xhs with ⟨w, w'⟩ | ⟨w, w'⟩
          · rw [w] at pchP apP; rw [w'] at pcsP apP
            exact ⟨pchP, pcsP, apP⟩
          · rw [w] at pchP apP; rw [w'] at pcsP apP
            exact ⟨pcsP, pchP, fun i j a hi hj z1 z2 => apP j i a hj hi z2 z1⟩
        · have ghP : ∀ i, gi P h i = gi M h i := fun i => by rw [gPc h i (by omega) (by omega) (by omega), gh]
          have g6 : ∀ i, 61 ≤ i → gi P 35 i = gi M 35 i := fun i w => by rw [gP35 i w, g35 35 i (by decide) (by decide)]
          have gt : ∀ a i, 72 ≤ a → a ≤ 83 → gi P a i = gi M a i := fun a i z1 z2 => by rw [gPc a i (by omega) (by omega) (by omega), g35 a i (by omega) (by omega)]
          rcases xH with ⟨y1, y2, y3⟩ | ⟨n', s', k', y1, y2, y3, y4, y5, y6, y7, y8, y9, y10⟩
          · exact Or.inl ⟨by rw [g6 61 (by decide)]; exact y1, by rw [ghP]; exact y2, by rw [ghP]; exact y3⟩
          · refine Or.inr ⟨n', s', k', by rw [g6 61 (by decide)]; exact y1, by rw [ghP]; exact y2, y3, by rw [ghP]; exact y4, by rw [g6 62 (by decide)]; exact y5, by rw [g6 63 (by decide)]; exact y6, y7, by rw [ghP]; exact y8, by rw [ghP, g6 64 (by decide)]; exact y9, fun j hj => ?_⟩
            obtain ⟨a, a1, a2, a3⟩ := y10 j hj
            obtain ⟨-, b8, bn, bk⟩ := pch.1 j a (by omega) a1
            have ga : ∀ i, gi P a i = gi M a i := fun i => by
              rw [gPc a i (by omega) (by omega) (by omega), gcell a i b8 bn bk (fun jj hjj w => hapart j jj a (by omega) hjj a1 w)]
            refine ⟨a, by rw [YF_r yP, rh]; exact a1, ?_, ?_⟩
            · rw [ga, ga, ga, ga, ga, ga, gt 72 _ (by decide) (by decide), gt 77 _ (by decide) (by decide), gt 78 _ (by decide) (by decide), gt 79 _ (by decide) (by decide), gt 76 _ (by decide) (by decide), gt 74 _ (by decide) (by decide)]
              exact a2
            · rw [ga, ga, ga, ga, gt 80 _ (by decide) (by decide), gt 82 _ (by decide) (by decide), gt 83 _ (by decide) (by decide)]
              exact a3
      · have z1 := hF.2.2.2.2
        have z2 : zs P = zs N := DF_z (YF_DFk yP)
        omega
theorem GROW_refl {M : mM} : GROW M M := ⟨Nat.le_refl _, by omega, Nat.le_refl _⟩
theorem p_plan (n : Int) : PAIR 117 177 [vi n] := fun M hI => by
  by_cases q : 0 ≤ n ∧ n ≤ gi M 1 2
  · obtain ⟨k, rfl⟩ : ∃ k : Nat, n = k := ⟨n.toNat, by omega⟩
    exact p_plan_k hI q.2
  · have h := hI.1.1
    have i1 := hI.1.2.1.2.2.1
    have fk := fun (Q : mV → mM → Prop) => x_isKnown (d := 17) (M := M) (Q := Q) (n := n) h
    have fy := fun (Q : mV → mM → Prop) => y_isKnown (d := 17) (M := M) (Q := Q) (n := n) h
    have q' : ¬ (0 ≤ n ∧ n ≤ gi M 35 37) := by omega
    simp only [if_neg q] at fk
    simp only [if_neg q'] at fy
    have e1 : ∀ Q : mV → mM → Prop, CP (mc 19) 117 [vr (some 0), vi n] M Q = Q (vi (-1)) M := fun Q => by
      simp only [↓cpX11_plan, ↓eX11_plan_0, ↓eX11_plan_1, ↓eX11_plan_4, ↓eX11_plan_5, ↓eX11_plan_8, ↓eX11_plan_11, ↓eX11_plan_12, hk0 h, hr0_0 h, hk1 h, ↓fk, Int.cast_ofNat_Int, kd_si, gr_si, ln_si, gi_same, gi_na, gi_ni, nl_i, nl_r, nl_j, nj_i, nj_l, nj_r, true_and, and_true, and_self, cs_0, cs_1, cs_2, cs_3, cs_4, ↓reduceIte, Nat.reduceLeDiff, Nat.reduceEqDiff, Nat.reduceAdd, Int.reduceLE, Int.reduceLT, Int.reduceEq, Int.reduceAdd, Int.reduceNeg, Int.reduceToNat, Int.toNat_natCast, ne_eq, not_false_eq_true, not_true_eq_false, or_true, true_or, or_false, false_or]
    have e2 : ∀ Q : mV → mM → Prop, CP (mc 19) 177 [vr (some 35), vi n] M Q = Q (vi (-1)) M := fun Q => by
      simp only [↓cpX12_plan, ↓eX12_plan_0, ↓eX12_plan_1, ↓eX12_plan_2, ↓eX12_plan_5, ↓eX12_plan_8, ↓eX12_plan_9, hk35 h, ↓fy, Int.cast_ofNat_Int, kd_si, gr_si, ln_si, gi_same, gi_na, gi_ni, nl_i, nl_r, nl_j, nj_i, nj_l, nj_r, true_and, and_true, and_self, cs_0, cs_1, cs_2, cs_3, cs_4, ↓reduceIte, Nat.reduceLeDiff, Nat.reduceEqDiff, Nat.reduceAdd, Int.reduceLE, Int.reduceLT, Int.reduceEq, Int.reduceAdd, Int.reduceNeg, Int.reduceToNat, Int.toNat_natCast, ne_eq, not_false_eq_true, not_true_eq_false, or_true, true_or, or_false, false_or]
    rw [e1]
    refine ⟨-1, rfl, ?_⟩
    rw [e2]
    exact ⟨rfl, hI, GROW_refl⟩
