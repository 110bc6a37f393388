/-! ===== the reference finds ===== -/
theorem vldQ_iff {n s : Nat} {fr un ti ep : Nat → Int} {may : Nat → Bool} {tu room : Int} {one : Nat → Nat → Bool} (hs : s < 2 ^ n) (hu : ∀ i, i < n → fr i < un i) (hm : ∀ i j, i < j → j < n → fr i ≤ fr j) (ho : ∀ i j, j < i → i < n → one j i = alk ti ep i j) : vldQ n fr un ti ep may tu room s ↔ VC n fr un may one tu room s := by
  have th : ff (thQ fr un tu n s) n 0 = -1 ↔ thinM n fr un tu s := by
    constructor
    · intro w i hi hb
      by_cases z : sm (onN fr un i) s n ≤ tu
      · exact z
      · exact absurd w ((ff_ex n 0).mpr ⟨i, Nat.zero_le i, by omega, by unfold thQ; rw [hb, Bool.true_and, decide_eq_true_eq]; omega⟩)
    · intro w
      by_cases z : ff (thQ fr un tu n s) n 0 = -1
      · exact z
      · obtain ⟨i, -, h2, h3⟩ := (ff_ex n 0).mp z
        unfold thQ at h3
        rw [Bool.and_eq_true, decide_eq_true_eq] at h3
        have := w i (by omega) h3.1
        omega
  have pl : ff (plQ ti ep may s) n 0 = -1 ↔ ∀ i, i < n → s.testBit i = true → may i = true ∧ ∀ j, j < i → s.testBit j = true → one j i = false := by
    constructor
    · intro w i hi hb
      have z : ¬ plQ ti ep may s i = true := fun z => absurd w ((ff_ex n 0).mpr ⟨i, Nat.zero_le i, by omega, z⟩)
      unfold plQ at z
      rw [hb, Bool.true_and] at z
      refine ⟨?_, fun j hj hbj => ?_⟩
      · cases hmi : may i with
        | true => rfl
        | false => rw [hmi] at z; exact absurd rfl z
      · cases hoi : one j i with
        | false => rfl
        | true =>
          rw [ho i j hj hi] at hoi
          refine absurd ?_ z
          rw [Bool.or_eq_true]
          refine Or.inr (decide_eq_true ((ff_ex i 0).mpr ⟨j, Nat.zero_le j, by omega, ?_⟩))
          unfold alQ
          rw [hbj, hoi]; rfl
    · intro w
      by_cases z : ff (plQ ti ep may s) n 0 = -1
      · exact z
      · obtain ⟨i, -, h2, h3⟩ := (ff_ex n 0).mp z
        unfold plQ at h3
        rw [Bool.and_eq_true, Bool.or_eq_true] at h3
        obtain ⟨h4, h5⟩ := h3
        obtain ⟨w1, w2⟩ := w i (by omega) h4
        rcases h5 with h5 | h5
        · rw [w1] at h5; exact absurd h5 (by decide)
        · rw [decide_eq_true_eq] at h5
          obtain ⟨j, -, j2, j3⟩ := (ff_ex i 0).mp h5
          unfold alQ at j3
          rw [Bool.and_eq_true] at j3
          have := w2 j (by omega) j3.1
          rw [ho i j (by omega) (by omega), j3.2] at this
          exact absurd this (by decide)
  unfold vldQ
  rw [th, pl]
  show _ ↔ valC n fr un (spn fr un) may one tu room s
  unfold valC
  constructor
  · rintro ⟨a, b, c⟩
    exact ⟨hs, a, b, (thin_iff hu hm).mpr c⟩
  · rintro ⟨-, a, b, c⟩
    exact ⟨a, b, (thin_iff hu hm).mp c⟩
/-- not better -/
theorem bet_cases {n : Nat} {way wt sp : Nat → Int} {s t : Nat} (h : s ≠ t) : bet n way wt sp s t ↔ ¬ (sm way s n < sm way t n ∨ (sm way s n = sm way t n ∧ sm wt s n < sm wt t n)) ∧ ¬ (sm way s n = sm way t n ∧ sm wt s n = sm wt t n ∧ (sm sp t n < sm sp s n ∨ (sm sp s n = sm sp t n ∧ lexB t s))) := by
  unfold bet
  constructor
  · rintro (w | ⟨w, v | ⟨v, u | ⟨u, l⟩⟩⟩)
    · exact ⟨by omega, fun x => by omega⟩
    · exact ⟨by omega, fun x => by omega⟩
    · exact ⟨by omega, fun x => by rcases x.2.2 with y | y <;> omega⟩
    · refine ⟨by omega, fun x => ?_⟩
      rcases x.2.2 with y | y
      · omega
      · exact lexB_irr (lexB_trans l y.2)
  · rintro ⟨w, v⟩
    by_cases z1 : sm way t n < sm way s n
    · exact Or.inl z1
    · have e1 : sm way t n = sm way s n := by omega
      refine Or.inr ⟨e1, ?_⟩
      by_cases z2 : sm wt t n < sm wt s n
      · exact Or.inl z2
      · have e2 : sm wt t n = sm wt s n := by omega
        refine Or.inr ⟨e2, ?_⟩
        by_cases z3 : sm sp s n < sm sp t n
        · exact Or.inl z3
        · by_cases z4 : sm sp t n < sm sp s n
          · exact absurd ⟨e1.symm, e2.symm, Or.inl z4⟩ v
          · have e3 : sm sp s n = sm sp t n := by omega
            rcases lexB_total h with l | l
            · exact Or.inr ⟨e3, l⟩
            · exact absurd ⟨e1.symm, e2.symm, Or.inr ⟨e3, l⟩⟩ v
theorem low_lex {s t : Nat} (hs : s < 16384) (ht : t < 16384) : (Int32.ofInt ((t &&& (s ^^^ t) : Nat) : Int) &&& Int32.ofInt (wr (-((s ^^^ t : Nat) : Int)))).toInt ≠ 0 ↔ lexB t s := by
  rw [i_low ht (xor_lt hs ht)]
  have x : ∀ i, (s ^^^ t).testBit i = (s.testBit i ^^ t.testBit i) := fun i => Nat.testBit_xor ..
  constructor
  · rintro ⟨i, a, b, c⟩
    refine ⟨i, a, ?_, fun j hj => ?_⟩
    · rw [x, a] at b
      cases hsi : s.testBit i with
      | false => rfl
      | true => rw [hsi] at b; exact absurd b (by decide)
    · have := c j hj
      rw [x] at this
      cases hsj : s.testBit j with
      | false =>
        cases htj : t.testBit j with
        | false => rfl
        | true => rw [hsj, htj] at this; exact absurd this (by decide)
      | true =>
        cases htj : t.testBit j with
        | true => rfl
        | false => rw [hsj, htj] at this; exact absurd this (by decide)
  · rintro ⟨i, a, b, c⟩
    refine ⟨i, a, by rw [x, a, b]; rfl, fun j hj => by rw [x, c j hj]; simp⟩
def fdS (a i : Nat) : Prop := a = 35 ∧ i = 63
section FINDS
variable {d n : Nat} {B : mM} {Q : mV → mM → Prop} {wt fr un ti ep way : Nat → Int} {may : Nat → Bool}
theorem RD_f {M N : mM} (h2 : N.2 = M.2) (h35 : gi N 35 62 = gi M 35 62) (hg : ∀ a i, 73 ≤ a → a ≤ 81 → gi N a i = gi M a i) (h : RD M n wt fr un ti ep way may) : RD N n wt fr un ti ep way may := by
  obtain ⟨h1, h3, h4, h5⟩ := h
  have hd : DF (fun _ => True) M N := ⟨h2, fun _ _ w => absurd trivial w⟩
  refine ⟨DF_SH hd h1, by rw [h35]; exact h3, h4, fun j hj => ?_⟩
  rw [hg 73 j (by decide) (by decide), hg 74 j (by decide) (by decide), hg 75 j (by decide) (by decide), hg 78 j (by decide) (by decide), hg 79 j (by decide) (by decide), hg 80 j (by decide) (by decide), hg 81 j (by decide) (by decide)]
  exact h5 j hj
/-- ways and weights of a set -/
theorem y_fd_in {C : mC} {s : Nat} {M : mM} {b1 b2 b3 : Int} (hD : RD M n wt fr un ti ep way may) (hS : SN n wt fr un way) (hs : s < 16384) {a8 : mV} : ∀ r i : Nat, i + r = n → WP C tX12_finds 29 [vr (some 35), vi b1, vi b2, vi b3, vi (s : Nat), vi (sm way s i), vi (sm wt s i), vi (i : Nat), a8] [] M Q = WP C tX12_finds 82 [vr (some 35), vi b1, vi b2, vi b3, vi (s : Nat), vi (sm way s n), vi (sm wt s n), vi (n : Nat), a8] [] M Q := by
  obtain ⟨h, h0, hn, hj⟩ := hD
  intro r
  induction r with
  | zero =>
    intro i hr
    have e : i = n := by omega
    subst e
    rw [eX12_finds_29]
    simp only [↓eX12_finds_31, ↓eX12_finds_32, ↓eX12_finds_35, hk35 h, h0, Int.le_refl, Int.cast_ofNat_Int, kd_si, gr_si, ln_si, gi_same, gi_na, gi_ni, nl_i, nl_r, nl_j, nj_i, nj_l, nj_r, true_and, and_true, and_self, cs_0, cs_1, cs_2, cs_3, cs_4, ↓reduceIte, Nat.reduceLeDiff, Nat.reduceEqDiff, Nat.reduceAdd, Int.reduceLE, Int.reduceLT, Int.reduceEq, Int.reduceAdd, Int.reduceNeg, Int.reduceToNat, Int.toNat_natCast, ne_eq, not_false_eq_true, not_true_eq_false, or_true, true_or, or_false, false_or]
  | succ r ih =>
    intro i hr
    have hin : i < n := by omega
    obtain ⟨j1, -, -, -, -, j6, -⟩ := hj i hin
    have sn := hS i hin
    have e1 : ((n : Int) ≤ (i : Int)) = False := eq_false (by omega)
    have e2 : wr ((i : Int) + 1) = ((i + 1 : Nat) : Int) := by rw [wr_id (by omega) (by omega)]; omega
    have i0 : (0 ≤ (i : Int)) = True := eq_true (by omega)
    have i1 : ((i : Int) < 14) = True := eq_true (by omega)
    have s1 := i_shr (s := s) (i := i) hs (by omega)
    have s2 := i_b1 (s := s) (i := i) hs
    have c1 := sm_bd (f := way) (s := s) (b := 1) (by decide) i (fun j hj => by have := (hS j (by omega)).2.2; omega)
    have c2 := sm_bd (f := wt) (s := s) (b := 9999) (by decide) i (fun j hj => by have := (hS j (by omega)).1; omega)
    rw [← ih (i + 1) (by omega), sm_s, sm_s, eX12_finds_29]
    by_cases q : s.testBit i = true
    · rw [tb_1 q] at s2
      have w2 : wr (sm wt s i + wt i) = sm wt s i + wt i := wr_id (by omega) (by omega)
      rw [if_pos q, if_pos q]
      rcases sn.2.2 with z | z
      · rw [z] at j6 ⊢
        rw [Int.add_zero]
        simp only [↓eX12_finds_31, ↓eX12_finds_32, ↓eX12_finds_35, ↓eX12_finds_38, ↓eX12_finds_40, ↓eX12_finds_42, ↓eX12_finds_43, ↓eX12_finds_44, ↓eX12_finds_45, ↓eX12_finds_48, ↓eX12_finds_51, ↓eX12_finds_53, ↓eX12_finds_54, ↓eX12_finds_57, ↓eX12_finds_59, ↓eX12_finds_60, ↓eX12_finds_61, ↓eX12_finds_63, ↓eX12_finds_64, ↓eX12_finds_67, ↓eX12_finds_69, ↓eX12_finds_70, ↓eX12_finds_73, ↓eX12_finds_76, ↓eX12_finds_79, hk35 h, h0, hr35_66 h, hr35_73 h, hk73 h, hl73 h, hk80 h, hl80 h, e1, e2, i0, i1, s1, s2, j1, j6, w2, Int.cast_ofNat_Int, kd_si, gr_si, ln_si, gi_same, gi_na, gi_ni, nl_i, nl_r, nl_j, nj_i, nj_l, nj_r, true_and, and_true, and_self, cs_0, cs_1, cs_2, cs_3, cs_4, ↓reduceIte, Nat.reduceLeDiff, Nat.reduceEqDiff, Nat.reduceAdd, Int.reduceLE, Int.reduceLT, Int.reduceEq, Int.reduceAdd, Int.reduceNeg, Int.reduceToNat, Int.toNat_natCast, ne_eq, not_false_eq_true, not_true_eq_false, or_true, true_or, or_false, false_or]
      · have w3 : wr (sm way s i + 1) = sm way s i + 1 := wr_id (by omega) (by omega)
        rw [z] at j6 ⊢
        simp only [↓eX12_finds_31, ↓eX12_finds_32, ↓eX12_finds_35, ↓eX12_finds_38, ↓eX12_finds_40, ↓eX12_finds_42, ↓eX12_finds_43, ↓eX12_finds_44, ↓eX12_finds_45, ↓eX12_finds_48, ↓eX12_finds_51, ↓eX12_finds_53, ↓eX12_finds_54, ↓eX12_finds_57, ↓eX12_finds_59, ↓eX12_finds_60, ↓eX12_finds_61, ↓eX12_finds_63, ↓eX12_finds_64, ↓eX12_finds_67, ↓eX12_finds_69, ↓eX12_finds_70, ↓eX12_finds_73, ↓eX12_finds_76, ↓eX12_finds_79, hk35 h, h0, hr35_66 h, hr35_73 h, hk73 h, hl73 h, hk80 h, hl80 h, e1, e2, i0, i1, s1, s2, j1, j6, w2, w3, Int.cast_ofNat_Int, kd_si, gr_si, ln_si, gi_same, gi_na, gi_ni, nl_i, nl_r, nl_j, nj_i, nj_l, nj_r, true_and, and_true, and_self, cs_0, cs_1, cs_2, cs_3, cs_4, ↓reduceIte, Nat.reduceLeDiff, Nat.reduceEqDiff, Nat.reduceAdd, Int.reduceLE, Int.reduceLT, Int.reduceEq, Int.reduceAdd, Int.reduceNeg, Int.reduceToNat, Int.toNat_natCast, ne_eq, not_false_eq_true, not_true_eq_false, or_true, true_or, or_false, false_or]
    · rw [tb_0 q] at s2
      rw [if_neg q, if_neg q, Int.add_zero, Int.add_zero]
      simp only [↓eX12_finds_31, ↓eX12_finds_32, ↓eX12_finds_35, ↓eX12_finds_38, ↓eX12_finds_40, ↓eX12_finds_42, ↓eX12_finds_43, ↓eX12_finds_44, ↓eX12_finds_45, ↓eX12_finds_48, ↓eX12_finds_51, ↓eX12_finds_53, ↓eX12_finds_54, ↓eX12_finds_57, ↓eX12_finds_59, ↓eX12_finds_60, ↓eX12_finds_61, ↓eX12_finds_63, ↓eX12_finds_64, ↓eX12_finds_67, ↓eX12_finds_69, ↓eX12_finds_70, ↓eX12_finds_73, ↓eX12_finds_76, ↓eX12_finds_79, hk35 h, h0, e1, e2, s1, s2, Int.cast_ofNat_Int, kd_si, gr_si, ln_si, gi_same, gi_na, gi_ni, nl_i, nl_r, nl_j, nj_i, nj_l, nj_r, true_and, and_true, and_self, cs_0, cs_1, cs_2, cs_3, cs_4, ↓reduceIte, Nat.reduceLeDiff, Nat.reduceEqDiff, Nat.reduceAdd, Int.reduceLE, Int.reduceLT, Int.reduceEq, Int.reduceAdd, Int.reduceNeg, Int.reduceToNat, Int.toNat_natCast, ne_eq, not_false_eq_true, not_true_eq_false, or_true, true_or, or_false, false_or]
theorem y_fd_loop {tu room : Int} (hD : RD B n wt fr un ti ep way may) (hS : SN n wt fr un way) (htu : gi B 35 46 = tu) (hro : gi B 35 49 = room) (V : Nat → Prop) (hV : ∀ s, s < 2 ^ n → (vldQ n fr un ti ep may tu room s ↔ V s)) (hV2 : ∀ s, V s → s < 2 ^ n)
    (hQ : ∀ N b, YF fdS B N → gi N 35 63 = (b : Nat) → bestOf n way wt (spn fr un) V b → Q (vi (sm wt b n)) N) :
    ∀ (r s b : Nat) (N : mM) (a5 a6 a7 a8 : mV), s + r = 2 ^ n → nl a5 → nl a6 → nl a7 → YF fdS B N → gi N 35 63 = (b : Nat) → b < s → V b → (∀ t, t < s → V t → t = b ∨ bet n way wt (spn fr un) b t) → WP (mc (d + 2)) tX12_finds 9 [vr (some 35), vi (sm way b n), vi (sm wt b n), vi (sm (spn fr un) b n), vi (s : Nat), a5, a6, a7, a8] [] N Q := by
  have hD0 := hD
  obtain ⟨h, h0, hn, hj⟩ := hD
  have p14 : 2 ^ n ≤ 16384 := Nat.pow_le_pow_right (n := 2) (j := 14) (by decide) hn
  have sh : (Int32.ofInt 1 <<< (Int32.ofInt (n : Int) &&& 31)).toInt = ((2 ^ n : Nat) : Int) := i_shl (by omega)
  intro r
  induction r with
  | zero =>
    intro s b N a5 a6 a7 a8 hr n5 n6 n7 hN hb hbs hv hall
    have e : s = 2 ^ n := by omega
    have hNs := YF_SH hN h
    have g62 : gi N 35 62 = n := by rw [hN.2 35 62 (fun w => by unfold fdS at w; omega)]; exact h0
    have le : ((2 ^ n : Nat) : Int) ≤ (s : Int) := by omega
    rw [eX12_finds_9]
    simp only [↓eX12_finds_11, ↓eX12_finds_12, ↓eX12_finds_13, ↓eX12_finds_16, ↓eX12_finds_17, ↓eX12_finds_197, ↓eX12_finds_198, hk35 hNs, g62, sh, le, Int.cast_ofNat_Int, kd_si, gr_si, ln_si, gi_same, gi_na, gi_ni, nl_i, nl_r, nl_j, nj_i, nj_l, nj_r, true_and, and_true, and_self, cs_0, cs_1, cs_2, cs_3, cs_4, ↓reduceIte, Nat.reduceLeDiff, Nat.reduceEqDiff, Nat.reduceAdd, Int.reduceLE, Int.reduceLT, Int.reduceEq, Int.reduceAdd, Int.reduceNeg, Int.reduceToNat, Int.toNat_natCast, ne_eq, not_false_eq_true, not_true_eq_false, or_true, true_or, or_false, false_or]
    exact hQ N b hN hb ⟨hv, fun t ht => hall t (by have := hV2 t ht; omega) ht⟩
  | succ r ih =>
    intro s b N a5 a6 a7 a8 hr n5 n6 n7 hN hb hbs hv hall
    have hNs := YF_SH hN h
    have g62 : gi N 35 62 = n := by rw [hN.2 35 62 (fun w => by unfold fdS at w; omega)]; exact h0
    have g46 : gi N 35 46 = tu := by rw [hN.2 35 46 (fun w => by unfold fdS at w; omega)]; exact htu
    have g49 : gi N 35 49 = room := by rw [hN.2 35 49 (fun w => by unfold fdS at w; omega)]; exact hro
    have le : (((2 ^ n : Nat) : Int) ≤ (s : Int)) = False := eq_false (by omega)
    have hs4 : s < 16384 := by omega
    have hb4 : b < 16384 := by omega
    have hDN : RD N n wt fr un ti ep way may := RD_f hN.1 (g62.trans h0.symm) (fun a i q1 q2 => hN.2 a i (fun w => by unfold fdS at w; omega)) hD0
    have e2 : wr ((s : Int) + 1) = ((s + 1 : Nat) : Int) := by rw [wr_id (by omega) (by omega)]; omega
    have inn := y_fd_in (C := mc (d + 2)) (Q := Q) (s := s) (M := N) (b1 := sm way b n) (b2 := sm wt b n) (b3 := sm (spn fr un) b n) (a8 := a8) hDN hS hs4 n 0 (by omega)
    have inn' : WP (mc (d + 2)) tX12_finds 29 [vr (some 35), vi (sm way b n), vi (sm wt b n), vi (sm (spn fr un) b n), vi (s : Nat), vi 0, vi 0, vi 0, a8] [] N Q = _ := inn
    have f1 := fun (Q : mV → mM → Prop) => y_roomOf (d := d + 1) (M := N) (Q := Q) hDN hS hs4
    have f2 := fun (Q : mV → mM → Prop) => y_isPlan (d := d) (M := N) (Q := Q) hDN hS hs4 g46 g49
    have sne : s ≠ b := by omega
    have x1 := i_xor (a := s) (b := b) hs4 hb4
    have x2 := i_and (a := b) (b := s ^^^ b) hb4
    -- keep what is
    have keep : ∀ (b5 b6 b7 b8 : mV), nl b5 → nl b6 → nl b7 → (V s → bet n way wt (spn fr un) b s) → WP (mc (d + 2)) tX12_finds 9 [vr (some 35), vi (sm way b n), vi (sm wt b n), vi (sm (spn fr un) b n), vi (s + 1 : Nat), b5, b6, b7, b8] [] N Q := fun b5 b6 b7 b8 m5 m6 m7 hk => ih (s + 1) b N b5 b6 b7 b8 (by omega) m5 m6 m7 hN hb (by omega) hv (fun t ht hvt => by
      by_cases q : t = s
      · rw [q] at hvt ⊢; exact Or.inr (hk hvt)
      · exact hall t (by omega) hvt)
    -- take the new one, if it is a plan
    have try' : bet n way wt (spn fr un) s b → ∀ b8 : mV, WP (mc (d + 2)) tX12_finds 164 [vr (some 35), vi (sm way b n), vi (sm wt b n), vi (sm (spn fr un) b n), vi (s : Nat), vi (sm way s n), vi (sm wt s n), vi (sm (spn fr un) s n), b8] [] N Q := fun hbt b8 => by
      by_cases q : vldQ n fr un ti ep may tu room s
      · have fp := fun (Q : mV → mM → Prop) => (f2 Q).1 q
        have hvs := (hV s (by omega)).mp q
        have nxt := ih (s + 1) s (si N 35 63 (s : Nat)) (vi (sm way s n)) (vi (sm wt s n)) (vi (sm (spn fr un) s n)) b8 (by omega) (nlI _) (nlI _) (nlI _) (YF_si ⟨rfl, rfl⟩ hN) (gi_same _ _ _ _) (by omega) hvs (fun t ht hvt => by
          by_cases z : t = s
          · exact Or.inl z
          · rcases hall t (by omega) hvt with w | w
            · rw [w]; exact Or.inr hbt
            · exact Or.inr (bet_trans hbt w))
        simp only [↓eX12_finds_164, ↓eX12_finds_165, ↓eX12_finds_167, ↓eX12_finds_170, ↓eX12_finds_173, ↓eX12_finds_176, ↓eX12_finds_178, ↓eX12_finds_179, ↓eX12_finds_181, ↓eX12_finds_182, ↓eX12_finds_184, ↓eX12_finds_185, ↓eX12_finds_186, ↓eX12_finds_188, ↓eX12_finds_191, ↓eX12_finds_194, hk35 hNs, ↓fp, e2, Int.cast_ofNat_Int, kd_si, gr_si, ln_si, gi_same, gi_na, gi_ni, nl_i, nl_r, nl_j, nj_i, nj_l, nj_r, true_and, and_true, and_self, cs_0, cs_1, cs_2, cs_3, cs_4, ↓reduceIte, Nat.reduceLeDiff, Nat.reduceEqDiff, Nat.reduceAdd, Int.reduceLE, Int.reduceLT, Int.reduceEq, Int.reduceAdd, Int.reduceNeg, Int.reduceToNat, Int.toNat_natCast, ne_eq, not_false_eq_true, not_true_eq_false, or_true, true_or, or_false, false_or]
        exact nxt
      · have fp := fun (Q : mV → mM → Prop) => (f2 Q).2 q
        have nxt := keep (vi (sm way s n)) (vi (sm wt s n)) (vi (sm (spn fr un) s n)) b8 (nlI _) (nlI _) (nlI _) (fun w => absurd ((hV s (by omega)).mpr w) q)
        simp only [↓eX12_finds_164, ↓eX12_finds_165, ↓eX12_finds_167, ↓eX12_finds_170, ↓eX12_finds_173, ↓eX12_finds_176, ↓eX12_finds_178, ↓eX12_finds_179, ↓eX12_finds_181, ↓eX12_finds_182, ↓eX12_finds_184, ↓eX12_finds_185, ↓eX12_finds_186, ↓eX12_finds_188, ↓eX12_finds_191, ↓eX12_finds_194, hk35 hNs, ↓fp, e2, Int.cast_ofNat_Int, kd_si, gr_si, ln_si, gi_same, gi_na, gi_ni, nl_i, nl_r, nl_j, nj_i, nj_l, nj_r, true_and, and_true, and_self, cs_0, cs_1, cs_2, cs_3, cs_4, ↓reduceIte, Nat.reduceLeDiff, Nat.reduceEqDiff, Nat.reduceAdd, Int.reduceLE, Int.reduceLT, Int.reduceEq, Int.reduceAdd, Int.reduceNeg, Int.reduceToNat, Int.toNat_natCast, ne_eq, not_false_eq_true, not_true_eq_false, or_true, true_or, or_false, false_or]
        exact nxt
    rw [eX12_finds_9]
    simp only [↓eX12_finds_11, ↓eX12_finds_12, ↓eX12_finds_13, ↓eX12_finds_16, ↓eX12_finds_17, ↓eX12_finds_20, ↓eX12_finds_21, ↓eX12_finds_23, ↓eX12_finds_24, ↓eX12_finds_26, ↓eX12_finds_27, n5, n6, n7, hk35 hNs, g62, sh, le, Int.cast_ofNat_Int, kd_si, gr_si, ln_si, gi_same, gi_na, gi_ni, nl_i, nl_r, nl_j, nj_i, nj_l, nj_r, true_and, and_true, and_self, cs_0, cs_1, cs_2, cs_3, cs_4, ↓reduceIte, Nat.reduceLeDiff, Nat.reduceEqDiff, Nat.reduceAdd, Int.reduceLE, Int.reduceLT, Int.reduceEq, Int.reduceAdd, Int.reduceNeg, Int.reduceToNat, Int.toNat_natCast, ne_eq, not_false_eq_true, not_true_eq_false, or_true, true_or, or_false, false_or]
    rw [inn']
    have bc := bet_cases (n := n) (way := way) (wt := wt) (sp := spn fr un) sne
    have bc' := bet_cases (n := n) (way := way) (wt := wt) (sp := spn fr un) sne.symm
    by_cases z1 : sm way s n < sm way b n
    · have nxt := keep (vi (sm way s n)) (vi (sm wt s n)) (vi (n : Nat)) a8 (nlI _) (nlI _) (nlI _) (fun _ => Or.inl z1)
      simp only [↓eX12_finds_82, ↓eX12_finds_84, ↓eX12_finds_85, ↓eX12_finds_88, ↓eX12_finds_90, ↓eX12_finds_91, ↓eX12_finds_94, ↓eX12_finds_96, ↓eX12_finds_97, ↓eX12_finds_100, ↓eX12_finds_191, ↓eX12_finds_194, z1, e2, Int.cast_ofNat_Int, kd_si, gr_si, ln_si, gi_same, gi_na, gi_ni, nl_i, nl_r, nl_j, nj_i, nj_l, nj_r, true_and, and_true, and_self, cs_0, cs_1, cs_2, cs_3, cs_4, ↓reduceIte, Nat.reduceLeDiff, Nat.reduceEqDiff, Nat.reduceAdd, Int.reduceLE, Int.reduceLT, Int.reduceEq, Int.reduceAdd, Int.reduceNeg, Int.reduceToNat, Int.toNat_natCast, ne_eq, not_false_eq_true, not_true_eq_false, or_true, true_or, or_false, false_or]
      exact nxt
    · by_cases z2 : sm way s n = sm way b n
      · by_cases z3 : sm wt s n < sm wt b n
        · have z3' : (sm wt b n ≤ sm wt s n) = False := eq_false (by omega)
          have nxt := keep (vi (sm way s n)) (vi (sm wt s n)) (vi (n : Nat)) a8 (nlI _) (nlI _) (nlI _) (fun _ => Or.inr ⟨z2, Or.inl z3⟩)
          rw [z2] at nxt ⊢
          simp only [↓eX12_finds_82, ↓eX12_finds_84, ↓eX12_finds_85, ↓eX12_finds_88, ↓eX12_finds_90, ↓eX12_finds_91, ↓eX12_finds_94, ↓eX12_finds_96, ↓eX12_finds_97, ↓eX12_finds_100, ↓eX12_finds_191, ↓eX12_finds_194, Int.lt_irrefl, z3', e2, Int.cast_ofNat_Int, kd_si, gr_si, ln_si, gi_same, gi_na, gi_ni, nl_i, nl_r, nl_j, nj_i, nj_l, nj_r, true_and, and_true, and_self, cs_0, cs_1, cs_2, cs_3, cs_4, ↓reduceIte, Nat.reduceLeDiff, Nat.reduceEqDiff, Nat.reduceAdd, Int.reduceLE, Int.reduceLT, Int.reduceEq, Int.reduceAdd, Int.reduceNeg, Int.reduceToNat, Int.toNat_natCast, ne_eq, not_false_eq_true, not_true_eq_false, or_true, true_or, or_false, false_or]
          exact nxt
        · have z3' : (sm wt b n ≤ sm wt s n) = True := eq_true (by omega)
          by_cases z4 : sm wt s n = sm wt b n
          · by_cases z5 : sm (spn fr un) b n < sm (spn fr un) s n
            · have z5' : (sm (spn fr un) s n ≤ sm (spn fr un) b n) = False := eq_false (by omega)
              have nxt := keep (vi (sm way s n)) (vi (sm wt s n)) (vi (sm (spn fr un) s n)) a8 (nlI _) (nlI _) (nlI _) (fun _ => Or.inr ⟨z2, Or.inr ⟨z4, Or.inl z5⟩⟩)
              rw [z2, z4] at nxt ⊢
              simp only [↓eX12_finds_82, ↓eX12_finds_84, ↓eX12_finds_85, ↓eX12_finds_88, ↓eX12_finds_90, ↓eX12_finds_91, ↓eX12_finds_94, ↓eX12_finds_96, ↓eX12_finds_97, ↓eX12_finds_100, ↓eX12_finds_103, ↓eX12_finds_104, ↓eX12_finds_106, ↓eX12_finds_109, ↓eX12_finds_111, ↓eX12_finds_113, ↓eX12_finds_114, ↓eX12_finds_117, ↓eX12_finds_119, ↓eX12_finds_120, ↓eX12_finds_123, ↓eX12_finds_125, ↓eX12_finds_126, ↓eX12_finds_129, ↓eX12_finds_191, ↓eX12_finds_194, Int.lt_irrefl, Int.le_refl, hk35 hNs, ↓f1, z5', nlI, e2, Int.cast_ofNat_Int, kd_si, gr_si, ln_si, gi_same, gi_na, gi_ni, nl_i, nl_r, nl_j, nj_i, nj_l, nj_r, true_and, and_true, and_self, cs_0, cs_1, cs_2, cs_3, cs_4, ↓reduceIte, Nat.reduceLeDiff, Nat.reduceEqDiff, Nat.reduceAdd, Int.reduceLE, Int.reduceLT, Int.reduceEq, Int.reduceAdd, Int.reduceNeg, Int.reduceToNat, Int.toNat_natCast, ne_eq, not_false_eq_true, not_true_eq_false, or_true, true_or, or_false, false_or]
              exact nxt
            · have z5' : (sm (spn fr un) s n ≤ sm (spn fr un) b n) = True := eq_true (by omega)
              by_cases z6 : sm (spn fr un) s n = sm (spn fr un) b n
              · by_cases z7 : lexB b s
                · have low := (low_lex hs4 hb4).mpr z7
                  have nxt := keep (vi (sm way s n)) (vi (sm wt s n)) (vi (sm (spn fr un) s n)) (vi ((s ^^^ b : Nat) : Int)) (nlI _) (nlI _) (nlI _) (fun _ => Or.inr ⟨z2, Or.inr ⟨z4, Or.inr ⟨z6.symm, z7⟩⟩⟩)
                  rw [z6] at nxt
                  rw [z2, z4] at nxt ⊢
                  simp only [↓eX12_finds_82, ↓eX12_finds_84, ↓eX12_finds_85, ↓eX12_finds_88, ↓eX12_finds_90, ↓eX12_finds_91, ↓eX12_finds_94, ↓eX12_finds_96, ↓eX12_finds_97, ↓eX12_finds_100, ↓eX12_finds_103, ↓eX12_finds_104, ↓eX12_finds_106, ↓eX12_finds_109, ↓eX12_finds_111, ↓eX12_finds_113, ↓eX12_finds_114, ↓eX12_finds_117, ↓eX12_finds_119, ↓eX12_finds_120, ↓eX12_finds_123, ↓eX12_finds_125, ↓eX12_finds_126, ↓eX12_finds_129, ↓eX12_finds_132, ↓eX12_finds_134, ↓eX12_finds_135, ↓eX12_finds_138, ↓eX12_finds_139, ↓eX12_finds_141, ↓eX12_finds_143, ↓eX12_finds_144, ↓eX12_finds_147, ↓eX12_finds_148, ↓eX12_finds_151, ↓eX12_finds_153, ↓eX12_finds_154, ↓eX12_finds_156, ↓eX12_finds_157, ↓eX12_finds_158, ↓eX12_finds_161, ↓eX12_finds_191, ↓eX12_finds_194, Int.lt_irrefl, Int.le_refl, hk35 hNs, ↓f1, z6, hb, x1, x2, low, nlI, e2, Int.cast_ofNat_Int, kd_si, gr_si, ln_si, gi_same, gi_na, gi_ni, nl_i, nl_r, nl_j, nj_i, nj_l, nj_r, true_and, and_true, and_self, cs_0, cs_1, cs_2, cs_3, cs_4, ↓reduceIte, Nat.reduceLeDiff, Nat.reduceEqDiff, Nat.reduceAdd, Int.reduceLE, Int.reduceLT, Int.reduceEq, Int.reduceAdd, Int.reduceNeg, Int.reduceToNat, Int.toNat_natCast, ne_eq, not_false_eq_true, not_true_eq_false, or_true, true_or, or_false, false_or]
                  exact nxt
                · have low : ((Int32.ofInt ((b &&& (s ^^^ b) : Nat) : Int) &&& Int32.ofInt (wr (-((s ^^^ b : Nat) : Int)))).toInt = 0) = True := eq_true (by
                    by_cases y : (Int32.ofInt ((b &&& (s ^^^ b) : Nat) : Int) &&& Int32.ofInt (wr (-((s ^^^ b : Nat) : Int)))).toInt = 0
                    · exact y
                    · exact absurd ((low_lex hs4 hb4).mp y) z7)
                  have nxt := try' (Or.inr ⟨z2.symm, Or.inr ⟨z4.symm, Or.inr ⟨z6, (lexB_total sne).resolve_right z7⟩⟩⟩) (vi ((s ^^^ b : Nat) : Int))
                  rw [z6] at nxt
                  rw [z2, z4] at nxt ⊢
                  simp only [↓eX12_finds_82, ↓eX12_finds_84, ↓eX12_finds_85, ↓eX12_finds_88, ↓eX12_finds_90, ↓eX12_finds_91, ↓eX12_finds_94, ↓eX12_finds_96, ↓eX12_finds_97, ↓eX12_finds_100, ↓eX12_finds_103, ↓eX12_finds_104, ↓eX12_finds_106, ↓eX12_finds_109, ↓eX12_finds_111, ↓eX12_finds_113, ↓eX12_finds_114, ↓eX12_finds_117, ↓eX12_finds_119, ↓eX12_finds_120, ↓eX12_finds_123, ↓eX12_finds_125, ↓eX12_finds_126, ↓eX12_finds_129, ↓eX12_finds_132, ↓eX12_finds_134, ↓eX12_finds_135, ↓eX12_finds_138, ↓eX12_finds_139, ↓eX12_finds_141, ↓eX12_finds_143, ↓eX12_finds_144, ↓eX12_finds_147, ↓eX12_finds_148, ↓eX12_finds_151, ↓eX12_finds_153, ↓eX12_finds_154, ↓eX12_finds_156, ↓eX12_finds_157, ↓eX12_finds_158, ↓eX12_finds_161, Int.lt_irrefl, Int.le_refl, hk35 hNs, ↓f1, z6, hb, x1, x2, low, nlI, Int.cast_ofNat_Int, kd_si, gr_si, ln_si, gi_same, gi_na, gi_ni, nl_i, nl_r, nl_j, nj_i, nj_l, nj_r, true_and, and_true, and_self, cs_0, cs_1, cs_2, cs_3, cs_4, ↓reduceIte, Nat.reduceLeDiff, Nat.reduceEqDiff, Nat.reduceAdd, Int.reduceLE, Int.reduceLT, Int.reduceEq, Int.reduceAdd, Int.reduceNeg, Int.reduceToNat, Int.toNat_natCast, ne_eq, not_false_eq_true, not_true_eq_false, or_true, true_or, or_false, false_or]
                  exact nxt
              · have nxt := try' (Or.inr ⟨z2.symm, Or.inr ⟨z4.symm, Or.inl (by omega)⟩⟩) (vi ((s ^^^ b : Nat) : Int))
                rw [z2, z4] at nxt ⊢
                simp only [↓eX12_finds_82, ↓eX12_finds_84, ↓eX12_finds_85, ↓eX12_finds_88, ↓eX12_finds_90, ↓eX12_finds_91, ↓eX12_finds_94, ↓eX12_finds_96, ↓eX12_finds_97, ↓eX12_finds_100, ↓eX12_finds_103, ↓eX12_finds_104, ↓eX12_finds_106, ↓eX12_finds_109, ↓eX12_finds_111, ↓eX12_finds_113, ↓eX12_finds_114, ↓eX12_finds_117, ↓eX12_finds_119, ↓eX12_finds_120, ↓eX12_finds_123, ↓eX12_finds_125, ↓eX12_finds_126, ↓eX12_finds_129, ↓eX12_finds_132, ↓eX12_finds_134, ↓eX12_finds_135, ↓eX12_finds_138, ↓eX12_finds_139, ↓eX12_finds_141, ↓eX12_finds_143, ↓eX12_finds_144, ↓eX12_finds_147, ↓eX12_finds_148, ↓eX12_finds_151, ↓eX12_finds_153, ↓eX12_finds_154, ↓eX12_finds_156, ↓eX12_finds_157, ↓eX12_finds_158, ↓eX12_finds_161, Int.lt_irrefl, Int.le_refl, hk35 hNs, ↓f1, z5', z6, hb, x1, nlI, Int.cast_ofNat_Int, kd_si, gr_si, ln_si, gi_same, gi_na, gi_ni, nl_i, nl_r, nl_j, nj_i, nj_l, nj_r, true_and, and_true, and_self, cs_0, cs_1, cs_2, cs_3, cs_4, ↓reduceIte, Nat.reduceLeDiff, Nat.reduceEqDiff, Nat.reduceAdd, Int.reduceLE, Int.reduceLT, Int.reduceEq, Int.reduceAdd, Int.reduceNeg, Int.reduceToNat, Int.toNat_natCast, ne_eq, not_false_eq_true, not_true_eq_false, or_true, true_or, or_false, false_or]
                exact nxt
          · have nxt := try' (Or.inr ⟨z2.symm, Or.inl (by omega)⟩) a8
            rw [z2] at nxt ⊢
            simp only [↓eX12_finds_82, ↓eX12_finds_84, ↓eX12_finds_85, ↓eX12_finds_88, ↓eX12_finds_90, ↓eX12_finds_91, ↓eX12_finds_94, ↓eX12_finds_96, ↓eX12_finds_97, ↓eX12_finds_100, ↓eX12_finds_103, ↓eX12_finds_104, ↓eX12_finds_106, ↓eX12_finds_109, ↓eX12_finds_111, ↓eX12_finds_113, ↓eX12_finds_114, ↓eX12_finds_117, ↓eX12_finds_119, ↓eX12_finds_120, ↓eX12_finds_123, ↓eX12_finds_125, ↓eX12_finds_126, ↓eX12_finds_129, ↓eX12_finds_132, ↓eX12_finds_134, ↓eX12_finds_135, ↓eX12_finds_138, ↓eX12_finds_139, ↓eX12_finds_141, ↓eX12_finds_143, ↓eX12_finds_144, ↓eX12_finds_147, ↓eX12_finds_148, ↓eX12_finds_151, ↓eX12_finds_153, ↓eX12_finds_154, ↓eX12_finds_156, ↓eX12_finds_157, ↓eX12_finds_158, ↓eX12_finds_161, Int.lt_irrefl, z3', z4, hk35 hNs, ↓f1, nlI, Int.cast_ofNat_Int, kd_si, gr_si, ln_si, gi_same, gi_na, gi_ni, nl_i, nl_r, nl_j, nj_i, nj_l, nj_r, true_and, and_true, and_self, cs_0, cs_1, cs_2, cs_3, cs_4, ↓reduceIte, Nat.reduceLeDiff, Nat.reduceEqDiff, Nat.reduceAdd, Int.reduceLE, Int.reduceLT, Int.reduceEq, Int.reduceAdd, Int.reduceNeg, Int.reduceToNat, Int.toNat_natCast, ne_eq, not_false_eq_true, not_true_eq_false, or_true, true_or, or_false, false_or]
            exact nxt
      · have nxt := try' (Or.inl (by omega)) a8
        simp only [↓eX12_finds_82, ↓eX12_finds_84, ↓eX12_finds_85, ↓eX12_finds_88, ↓eX12_finds_90, ↓eX12_finds_91, ↓eX12_finds_94, ↓eX12_finds_96, ↓eX12_finds_97, ↓eX12_finds_100, ↓eX12_finds_103, ↓eX12_finds_104, ↓eX12_finds_106, ↓eX12_finds_109, ↓eX12_finds_111, ↓eX12_finds_113, ↓eX12_finds_114, ↓eX12_finds_117, ↓eX12_finds_119, ↓eX12_finds_120, ↓eX12_finds_123, ↓eX12_finds_125, ↓eX12_finds_126, ↓eX12_finds_129, ↓eX12_finds_132, ↓eX12_finds_134, ↓eX12_finds_135, ↓eX12_finds_138, ↓eX12_finds_139, ↓eX12_finds_141, ↓eX12_finds_143, ↓eX12_finds_144, ↓eX12_finds_147, ↓eX12_finds_148, ↓eX12_finds_151, ↓eX12_finds_153, ↓eX12_finds_154, ↓eX12_finds_156, ↓eX12_finds_157, ↓eX12_finds_158, ↓eX12_finds_161, z1, z2, hk35 hNs, ↓f1, nlI, Int.cast_ofNat_Int, kd_si, gr_si, ln_si, gi_same, gi_na, gi_ni, nl_i, nl_r, nl_j, nj_i, nj_l, nj_r, true_and, and_true, and_self, cs_0, cs_1, cs_2, cs_3, cs_4, ↓reduceIte, Nat.reduceLeDiff, Nat.reduceEqDiff, Nat.reduceAdd, Int.reduceLE, Int.reduceLT, Int.reduceEq, Int.reduceAdd, Int.reduceNeg, Int.reduceToNat, Int.toNat_natCast, ne_eq, not_false_eq_true, not_true_eq_false, or_true, true_or, or_false, false_or]
        exact nxt
theorem y_finds {tu room : Int} (hD : RD B n wt fr un ti ep way may) (hS : SN n wt fr un way) (htu : gi B 35 46 = tu) (hro : gi B 35 49 = room) (h63 : gi B 35 63 = 0) (V : Nat → Prop) (hV : ∀ s, s < 2 ^ n → (vldQ n fr un ti ep may tu room s ↔ V s)) (hV2 : ∀ s, V s → s < 2 ^ n) (hV0 : V 0)
    (hQ : ∀ N b, YF fdS B N → gi N 35 63 = (b : Nat) → bestOf n way wt (spn fr un) V b → Q (vi (sm wt b n)) N) : CP (mc (d + 3)) 178 [vr (some 35)] B Q := by
  have p0 : 1 ≤ 2 ^ n := Nat.pow_pos (by decide)
  have lp := y_fd_loop (d := d) hD hS htu hro V hV hV2 hQ (2 ^ n - 1) 1 0 B vj vj vj vj (by omega) nlJ nlJ nlJ YF_refl h63 (by decide) hV0 (fun t ht _ => Or.inl (by omega))
  rw [sm_0, sm_0, sm_0] at lp
  have lp' : WP (mc (d + 2)) tX12_finds 9 [vr (some 35), vi 0, vi 0, vi 0, vi 1, vj, vj, vj, vj] [] B Q := lp
  simp only [↓cpX12_finds, ↓eX12_finds_0, ↓eX12_finds_1, ↓eX12_finds_2, ↓eX12_finds_3, ↓eX12_finds_4, ↓eX12_finds_5, ↓eX12_finds_6, ↓eX12_finds_7, Int.cast_ofNat_Int, kd_si, gr_si, ln_si, gi_same, gi_na, gi_ni, nl_i, nl_r, nl_j, nj_i, nj_l, nj_r, true_and, and_true, and_self, cs_0, cs_1, cs_2, cs_3, cs_4, ↓reduceIte, Nat.reduceLeDiff, Nat.reduceEqDiff, Nat.reduceAdd, Int.reduceLE, Int.reduceLT, Int.reduceEq, Int.reduceAdd, Int.reduceNeg, Int.reduceToNat, Int.toNat_natCast, ne_eq, not_false_eq_true, not_true_eq_false, or_true, true_or, or_false, false_or]
  exact lp'
end FINDS
