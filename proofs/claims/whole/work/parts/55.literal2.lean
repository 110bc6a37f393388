def ltS (sd n c a i : Nat) : Prop := (a = 35 ∧ ((11 ≤ i ∧ i ≤ 14) ∨ i = 29 ∨ i = 33)) ∨ (a = 46 ∧ i = sd) ∨ (47 ≤ a ∧ a ≤ 51 ∧ i = 400 * sd + n) ∨ ((a = 52 ∨ a = 53) ∧ 500 * sd + c ≤ i ∧ i < 500 * sd + 401) ∨ a = 54
theorem ex_lt {sd n c c0 : Nat} {M N : mM} (h : YF (exS c0 (500 * sd + 401)) M N) (hc : 500 * sd + c ≤ c0) : YF (ltS sd n c) M N := YF_mono (fun a i z => by unfold exS at z; unfold ltS; omega) h
theorem ltM_YF {sd n c : Nat} {M N : mM} {so l r cc o : Int} (h : YF (ltS sd n c) M N) : YF (ltS sd n c) M (ltM N sd n so l r cc o) := by
  have q : ∀ a, 47 ≤ a → a ≤ 51 → ltS sd n c a (400 * sd + n) := fun a h1 h2 => Or.inr (Or.inr (Or.inl ⟨h1, h2, rfl⟩))
  exact YF_si (Or.inr (Or.inl ⟨rfl, rfl⟩)) (YF_si (q 51 (by decide) (by decide)) (YF_si (q 50 (by decide) (by decide)) (YF_si (q 49 (by decide) (by decide)) (YF_si (q 48 (by decide) (by decide)) (YF_si (q 47 (by decide) (by decide)) h)))))
theorem ltM_g {sd n : Nat} {N : mM} {so l r cc o : Int} : gi (ltM N sd n so l r cc o) 47 (400 * sd + n) = so ∧ gi (ltM N sd n so l r cc o) 48 (400 * sd + n) = l ∧ gi (ltM N sd n so l r cc o) 49 (400 * sd + n) = r ∧ gi (ltM N sd n so l r cc o) 50 (400 * sd + n) = cc ∧ gi (ltM N sd n so l r cc o) 51 (400 * sd + n) = o ∧ gi (ltM N sd n so l r cc o) 46 sd = (n + 1 : Nat) := by
  unfold ltM
  simp only [gi_same, gi_na, ne_eq, Nat.reduceEqDiff, not_false_eq_true, and_self]
theorem ltM_o {sd n : Nat} {N : mM} {so l r cc o : Int} {a i : Nat} (h : a < 46 ∨ 51 < a) : gi (ltM N sd n so l r cc o) a i = gi N a i := by
  unfold ltM
  rw [gi_na (by omega), gi_na (by omega), gi_na (by omega), gi_na (by omega), gi_na (by omega), gi_na (by omega)]
section LIT2
variable {d : Nat} {Q : mV → mM → Prop} {B : Nat → Int} {sz sd : Nat} {T N : mM} {k nt R bs c n : Nat} {am wp ck or : Int} {me : Nat → Env → Int} {mt : Nat → Int} {A O L : Env → Int}
theorem y_literal (hT : TKB B sz T) (hsd : sd ≤ 1) (h : SH N) (h38 : ∀ a i, 38 ≤ a → a ≤ 40 → gi N a i = gi T a i) (hk : ok B sz k) (hs : sg B sz k = (3, 0, false, am, wp, nt, R, me, mt, bs, A, O, ck, L, [], fun _ => [])) (h11 : gi N 35 11 = k) (h13 : gi N 35 13 = 0) (h12 : gi N 35 12 = 0) (h19 : gi N 35 19 = sd) (h29 : gi N 35 29 = (500 * sd + c : Nat)) (hc : c ≤ k) (h46 : gi N 46 sd = n) (hn : n < 400) (ho : or = 0 ∨ or = 1)
    (hQ1 : ∀ k' st' nt' cm' ck' L' w' V' c' P, ok B sz k' → k < k' → sg B sz k' = (st', 0, cm', am, wp, nt', R, me, mt, bs, A, O, ck', L', w', V') → (st' = 5 ∨ (st' = 6 ∧ cm' = true)) → (st' = 6 → bg B sz k' < sz → ¬ (17 ≤ tk B sz k' ∧ tk B sz k' ≤ 19)) → YF (ltS sd n c) N P → gi P 35 11 = (k' : Nat) → gi P 35 13 = 0 → gi P 35 12 = 0 → gi P 35 29 = (500 * sd + c' : Nat) → c ≤ c' → c' ≤ k' → gi P 46 sd = (n + 1 : Nat) → VL P sd c' n → (∀ e, xl P sd n e = lit cm' ck' L' w' V' e) → gi P 51 (400 * sd + n) = or → (∀ e, EV e → lit cm' ck' L' w' V' e = 0 ∨ lit cm' ck' L' w' V' e = 1) → Q vj P)
    (hQ2 : ∀ k' P, FL B sz k' P → YF (ltS sd n c) N P → Q vj P) : CP (mc (d + 5)) 142 [vr (some 35), vi or] N Q := by
  have k4 := ok_400 hk
  have hnt := sg_n hs
  have g38 := h38 38 k (by decide) (by decide)
  have g39 := h38 39 k (by decide) (by decide)
  have e35 : ∀ i, (11 ≤ i ∧ i ≤ 14) ∨ i = 29 ∨ i = 33 → ltS sd n c 35 i := fun i hi => Or.inl ⟨rfl, hi⟩
  have fis := fun (Q : mV → mM → Prop) (c : Int) => y_is (d := d + 3) (N := N) (Q := Q) (c := c) h h11 k4
  obtain ⟨mk, hmk⟩ : ∃ mk, gi N 38 k = mk := ⟨_, rfl⟩
  -- once it has failed
  have ret : ∀ k' P (l r so : Int), FL B sz k' P → YF (ltS sd n c) N P → WP (mc (d + 4)) tX12_literal 115 [vr (some 35), vi or, vi l, vi r, vi so, vj] [] P Q := fun k' P l r so fl yP => by
    have hP := YF_SH yP h
    have f0 : (gi P 35 13 ≤ 0) = False := eq_false (by rw [fl.2.1]; have := fl.2.2.1; omega)
    simp only [↓eX12_literal_115, ↓eX12_literal_116, ↓eX12_literal_119, ↓eX12_literal_122, hk35 hP, f0, Int.cast_ofNat_Int, kd_si, gr_si, ln_si, gi_same, gi_na, gi_ni, nl_i, nl_r, nl_j, nj_i, nj_l, nj_r, true_and, and_true, and_self, cs_0, cs_1, cs_2, cs_3, cs_4, ↓reduceIte, Nat.reduceLeDiff, Nat.reduceEqDiff, Nat.reduceAdd, Int.reduceLE, Int.reduceLT, Int.reduceEq, Int.reduceAdd, Int.reduceNeg, Int.reduceToNat, Int.toNat_natCast, ne_eq, not_false_eq_true, not_true_eq_false, or_true, true_or, or_false, false_or]
    exact hQ2 k' P fl yP
  have dead : ∀ k' P (l r so : Int), FL B sz k' P → YF (ltS sd n c) N P → WP (mc (d + 4)) tX12_literal 106 [vr (some 35), vi or, vi l, vi r, vi so, vj] [] P Q := fun k' P l r so fl yP => by
    have hP := YF_SH yP h
    have f0 : 0 < gi P 35 13 := by rw [fl.2.1]; exact fl.2.2.1
    have fe := fun (Q : mV → mM → Prop) => y_exprD (d := d + 3) (N := P) (Q := Q) hP f0
    have yR : YF (ltS sd n c) N (si P 35 33 0) := YF_si (e35 33 (by omega)) yP
    have flR : FL B sz k' (si P 35 33 0) := FL_f fl (by rw [gi_ni (by decide)]) (by rw [gi_ni (by decide)]) (by rw [gi_ni (by decide)]; exact fl.2.2.2.2)
    simp only [↓eX12_literal_106, ↓eX12_literal_107, ↓eX12_literal_110, ↓eX12_literal_111, ↓eX12_literal_112, hk35 hP, ↓fe, Int.cast_ofNat_Int, kd_si, gr_si, ln_si, gi_same, gi_na, gi_ni, nl_i, nl_r, nl_j, nj_i, nj_l, nj_r, true_and, and_true, and_self, cs_0, cs_1, cs_2, cs_3, cs_4, ↓reduceIte, Nat.reduceLeDiff, Nat.reduceEqDiff, Nat.reduceAdd, Int.reduceLE, Int.reduceLT, Int.reduceEq, Int.reduceAdd, Int.reduceNeg, Int.reduceToNat, Int.toNat_natCast, ne_eq, not_false_eq_true, not_true_eq_false, or_true, true_or, or_false, false_or]
    exact ret k' _ l _ so flR yR
  have dead2 : ∀ k' P (l r so : Int), FL B sz k' P → YF (ltS sd n c) N P → WP (mc (d + 4)) tX12_literal 102 [vr (some 35), vi or, vi l, vi r, vi so, vj] [] P Q := fun k' P l r so fl yP => by
    have hP := YF_SH yP h
    obtain ⟨t, ht4, ht⟩ := fl.2.2.2.2
    have f0 : 0 < gi P 35 13 := by rw [fl.2.1]; exact fl.2.2.1
    have fn := fun (Q : mV → mM → Prop) => y_nextD (d := d + 2) (N := P) (Q := Q) hP ht ht4 f0
    simp only [↓eX12_literal_102, ↓eX12_literal_103, hk35 hP, ↓fn, Int.cast_ofNat_Int, kd_si, gr_si, ln_si, gi_same, gi_na, gi_ni, nl_i, nl_r, nl_j, nj_i, nj_l, nj_r, true_and, and_true, and_self, cs_0, cs_1, cs_2, cs_3, cs_4, ↓reduceIte, Nat.reduceLeDiff, Nat.reduceEqDiff, Nat.reduceAdd, Int.reduceLE, Int.reduceLT, Int.reduceEq, Int.reduceAdd, Int.reduceNeg, Int.reduceToNat, Int.toNat_natCast, ne_eq, not_false_eq_true, not_true_eq_false, or_true, true_or, or_false, false_or]
    by_cases z : t = 400
    · rw [if_pos z]
      exact dead k' P l r so fl yP
    · rw [if_neg z]
      exact dead k' _ l r so (FL_f fl (by rw [gi_ni (by decide)]) (by rw [gi_ni (by decide)]) ⟨t + 1, by omega, gi_same _ _ _ _⟩) (YF_si (e35 11 (by omega)) yP)
  by_cases hlf : bg B sz k < sz ∧ (tk B sz k = 9 ∨ tk B sz k = 10)
  · obtain ⟨b1, hlf⟩ := hlf
    have b2 : KR (tk B sz k) (gi T 38 k) := by
      rcases tokL hT hk with ⟨-, b2, -⟩ | ⟨b1', -⟩
      · exact b2
      · omega
    rw [← g38, hmk] at b2
    have q9 : mk = 25 ↔ tk B sz k = 9 := KR_c b2 (c := 9) (by decide) (by decide)
    have q10 : mk = 26 ↔ tk B sz k = 10 := KR_c b2 (c := 10) (by decide) (by decide)
    have hgo : goes 3 0 false (tk B sz k) := Or.inr (Or.inr (Or.inr (Or.inl ⟨rfl, by omega⟩)))
    obtain ⟨so, hso, hso2, hso3⟩ : ∃ so : Int, (so = 4 ∨ so = 5) ∧ (so = 4 ↔ tk B sz k = 9) ∧ (so = 5 ↔ tk B sz k = 10) := by
      rcases hlf with y | y
      · exact ⟨4, Or.inl rfl, ⟨fun _ => y, fun _ => rfl⟩, ⟨fun q => by omega, fun q => by omega⟩⟩
      · exact ⟨5, Or.inr rfl, ⟨fun q => by omega, fun q => by omega⟩, ⟨fun _ => y, fun _ => rfl⟩⟩
    have step : CP (mc (d + 5)) 142 [vr (some 35), vi or] N Q = WP (mc (d + 4)) tX12_literal 43 [vr (some 35), vi or, vi (500 * sd + c : Nat), vi (500 * sd + c : Nat), vi so, vj] [] N Q := by
      rcases hlf with y | y
      · have m25 := q9.mpr y
        have s4 := hso2.mpr y
        simp only [↓cpX12_literal, ↓eX12_literal_0, ↓eX12_literal_1, ↓eX12_literal_4, ↓eX12_literal_5, ↓eX12_literal_6, ↓eX12_literal_9, ↓eX12_literal_10, ↓eX12_literal_11, ↓eX12_literal_13, ↓eX12_literal_14, ↓eX12_literal_16, ↓eX12_literal_19, ↓eX12_literal_22, ↓eX12_literal_23, ↓eX12_literal_25, ↓eX12_literal_28, ↓eX12_literal_31, ↓eX12_literal_32, ↓eX12_literal_34, ↓eX12_literal_37, ↓eX12_literal_40, ↓eX12_literal_41, hk35 h, ↓fis, h13, hmk, m25, h29, s4, and_false, Int.cast_ofNat_Int, kd_si, gr_si, ln_si, gi_same, gi_na, gi_ni, nl_i, nl_r, nl_j, nj_i, nj_l, nj_r, true_and, and_true, and_self, cs_0, cs_1, cs_2, cs_3, cs_4, ↓reduceIte, Nat.reduceLeDiff, Nat.reduceEqDiff, Nat.reduceAdd, Int.reduceLE, Int.reduceLT, Int.reduceEq, Int.reduceAdd, Int.reduceNeg, Int.reduceToNat, Int.toNat_natCast, ne_eq, not_false_eq_true, not_true_eq_false, or_true, true_or, or_false, false_or]
      · have m26 := q10.mpr y
        have s5 := hso3.mpr y
        simp only [↓cpX12_literal, ↓eX12_literal_0, ↓eX12_literal_1, ↓eX12_literal_4, ↓eX12_literal_5, ↓eX12_literal_6, ↓eX12_literal_9, ↓eX12_literal_10, ↓eX12_literal_11, ↓eX12_literal_13, ↓eX12_literal_14, ↓eX12_literal_16, ↓eX12_literal_19, ↓eX12_literal_22, ↓eX12_literal_23, ↓eX12_literal_25, ↓eX12_literal_28, ↓eX12_literal_31, ↓eX12_literal_32, ↓eX12_literal_34, ↓eX12_literal_37, ↓eX12_literal_40, ↓eX12_literal_41, hk35 h, ↓fis, h13, hmk, m26, h29, s5, and_false, Int.cast_ofNat_Int, kd_si, gr_si, ln_si, gi_same, gi_na, gi_ni, nl_i, nl_r, nl_j, nj_i, nj_l, nj_r, true_and, and_true, and_self, cs_0, cs_1, cs_2, cs_3, cs_4, ↓reduceIte, Nat.reduceLeDiff, Nat.reduceEqDiff, Nat.reduceAdd, Int.reduceLE, Int.reduceLT, Int.reduceEq, Int.reduceAdd, Int.reduceNeg, Int.reduceToNat, Int.toNat_natCast, ne_eq, not_false_eq_true, not_true_eq_false, or_true, true_or, or_false, false_or]
    rw [step]
    by_cases k40 : k = 400
    · subst k40
      have fn := fun (Q : mV → mM → Prop) => y_nextF (d := d + 2) (N := N) (Q := Q) h h11 h13
      simp only [↓eX12_literal_43, ↓eX12_literal_44, ↓eX12_literal_47, hk35 h, ↓fn, Int.cast_ofNat_Int, kd_si, gr_si, ln_si, gi_same, gi_na, gi_ni, nl_i, nl_r, nl_j, nj_i, nj_l, nj_r, true_and, and_true, and_self, cs_0, cs_1, cs_2, cs_3, cs_4, ↓reduceIte, Nat.reduceLeDiff, Nat.reduceEqDiff, Nat.reduceAdd, Int.reduceLE, Int.reduceLT, Int.reduceEq, Int.reduceAdd, Int.reduceNeg, Int.reduceToNat, Int.toNat_natCast, ne_eq, not_false_eq_true, not_true_eq_false, or_true, true_or, or_false, false_or]
      exact ret 400 _ _ _ _ (FL_room hT hk hs b1 hgo (Or.inl (by omega)) (by simp only [Int.cast_ofNat_Int, kd_si, gr_si, ln_si, gi_same, gi_na, gi_ni, nl_i, nl_r, nl_j, nj_i, nj_l, nj_r, true_and, and_true, and_self, cs_0, cs_1, cs_2, cs_3, cs_4, ↓reduceIte, Nat.reduceLeDiff, Nat.reduceEqDiff, Nat.reduceAdd, Int.reduceLE, Int.reduceLT, Int.reduceEq, Int.reduceAdd, Int.reduceNeg, Int.reduceToNat, Int.toNat_natCast, ne_eq, not_false_eq_true, not_true_eq_false, or_true, true_or, or_false, false_or]) (by rw [gi_same, g39]) (by simp only [Int.cast_ofNat_Int, kd_si, gr_si, ln_si, gi_same, gi_na, gi_ni, nl_i, nl_r, nl_j, nj_i, nj_l, nj_r, true_and, and_true, and_self, cs_0, cs_1, cs_2, cs_3, cs_4, ↓reduceIte, Nat.reduceLeDiff, Nat.reduceEqDiff, Nat.reduceAdd, Int.reduceLE, Int.reduceLT, Int.reduceEq, Int.reduceAdd, Int.reduceNeg, Int.reduceToNat, Int.toNat_natCast, ne_eq, not_false_eq_true, not_true_eq_false, or_true, true_or, or_false, false_or]; exact h11)) (YF_si (e35 14 (by omega)) (YF_si (e35 13 (by omega)) YF_refl))
    · have fn := fun (Q : mV → mM → Prop) => y_nextG (d := d + 2) (N := N) (Q := Q) (k := k) h h11 (by omega)
      obtain ⟨ok1, sg1⟩ := ok_go hk hs b1 hgo (by unfold much; omega)
      have sg2 : sg B sz (k + 1) = (5, 0, false, am, wp, nt + 1, R, me, mt, bs, A, O, ck, L, [], fun e => [opv (tk B sz k) (tvv B sz k) e]) := by
        rw [sg1]
        unfold nxt
        simp only
        rw [if_neg (by decide), if_neg (by decide), if_neg (by decide), if_pos (by decide), if_neg (by omega), if_pos hlf]
      have hP : SH (si N 35 11 (k + 1 : Nat)) := h
      have kp := y_lit_keep (d := d + 3) (Q := Q) (P := si N 35 11 (k + 1 : Nat)) (cc := (500 * sd + c : Nat)) (so := so) (l := (500 * sd + c : Nat)) (r := (500 * sd + c : Nat)) hP hsd (by rw [gi_ni (by decide)]; exact h13) (by rw [gi_ni (by decide)]; exact h19) (by rw [gi_na (by decide)]; exact h46) hn ho (by rw [gi_ni (by decide)]; exact h29)
      simp only [↓eX12_literal_43, ↓eX12_literal_44, ↓eX12_literal_47, hk35 h, ↓fn, Int.cast_ofNat_Int, kd_si, gr_si, ln_si, gi_same, gi_na, gi_ni, nl_i, nl_r, nl_j, nj_i, nj_l, nj_r, true_and, and_true, and_self, cs_0, cs_1, cs_2, cs_3, cs_4, ↓reduceIte, Nat.reduceLeDiff, Nat.reduceEqDiff, Nat.reduceAdd, Int.reduceLE, Int.reduceLT, Int.reduceEq, Int.reduceAdd, Int.reduceNeg, Int.reduceToNat, Int.toNat_natCast, ne_eq, not_false_eq_true, not_true_eq_false, or_true, true_or, or_false, false_or]
      rw [kp]
      have yP : YF (ltS sd n c) N (si N 35 11 (k + 1 : Nat)) := YF_si (e35 11 (by omega)) YF_refl
      obtain ⟨l1, l2, l3, l4, l5, l6⟩ := ltM_g (sd := sd) (n := n) (N := si N 35 11 (k + 1 : Nat)) (so := so) (l := (500 * sd + c : Nat)) (r := (500 * sd + c : Nat)) (cc := (500 * sd + c : Nat)) (o := or)
      have lv : ∀ e, lit false ck L [] (fun e => [opv (tk B sz k) (tvv B sz k) e]) e = if tk B sz k = 9 then e 7 else e 8 := fun e => by
        show opv (tk B sz k) (tvv B sz k) e = _
        unfold opv
        rw [if_neg (by omega)]
        rcases hlf with y | y
        · rw [if_pos y, y]; rfl
        · rw [if_neg (by omega), y]; rfl
      refine hQ1 (k + 1) 5 (nt + 1) false ck L [] _ c _ ok1 (Nat.lt_succ_self k) sg2 (Or.inl rfl) (fun q => by omega) (ltM_YF yP) ?_ ?_ ?_ ?_ (Nat.le_refl c) (by omega) l6 (Or.inl (by rw [l1]; exact hso)) (fun e => ?_) l5 (fun e he => ?_)
      · rw [ltM_o (by decide), gi_same]
      · rw [ltM_o (by decide), gi_ni (by decide)]; exact h13
      · rw [ltM_o (by decide), gi_ni (by decide)]; exact h12
      · rw [ltM_o (by decide), gi_ni (by decide)]; exact h29
      · rw [lv e]
        unfold xl
        rw [l1]
        rcases hlf with y | y
        · rw [if_pos (hso2.mpr y), if_pos y]
        · rw [if_neg (by have := hso3.mpr y; omega), if_pos (hso3.mpr y), if_neg (by omega)]
      · rw [lv e]
        split
        · exact he.1
        · exact he.2
  · -- a comparison
    have n9 : bg B sz k < sz → tk B sz k ≠ 9 ∧ tk B sz k ≠ 10 := fun hb => ⟨fun w => hlf ⟨hb, Or.inl w⟩, fun w => hlf ⟨hb, Or.inr w⟩⟩
    have m25 : (mk = 25) = False ∧ (mk = 26) = False := by
      rcases tokL hT hk with ⟨b1, b2, -⟩ | ⟨b1', b2, -⟩
      · rw [← g38, hmk] at b2
        have q9 : mk = 25 ↔ tk B sz k = 9 := KR_c b2 (c := 9) (by decide) (by decide)
        have q10 : mk = 26 ↔ tk B sz k = 10 := KR_c b2 (c := 10) (by decide) (by decide)
        exact ⟨eq_false (fun w => (n9 b1).1 (q9.mp w)), eq_false (fun w => (n9 b1).2 (q10.mp w))⟩
      · rw [← g38, hmk] at b2
        exact ⟨eq_false (by omega), eq_false (by omega)⟩
    have ex := y_expression (d := d) (b := 500 * sd) (lo := 500 * sd + c) (Q := fun v P => v = vj ∧ WP (mc (d + 4)) tX12_literal 54 [vr (some 35), vi or, vi (500 * sd + c : Nat), vi (500 * sd + c : Nat), vi 4, vj] [] P Q) hT (by omega) h h38 hk hs (Or.inr ⟨rfl, n9⟩) h11 h13 h12 h29 (by omega)
      (fun k1 nt1 w V P hkk ok1 sg1 har yP p11 p13 p12 cP => ⟨rfl, by
        have hP := YF_SH yP h
        have yP' : YF (ltS sd n c) N P := ex_lt yP (Nat.le_refl _)
        have k14 := ok_400 ok1
        have hnt1 := sg_n sg1
        have g38' : gi P 38 k1 = gi T 38 k1 := by rw [yP.2 38 k1 (by unfold exS; omega)]; exact h38 38 k1 (by decide) (by decide)
        have g39' : gi P 39 k1 = gi T 39 k1 := by rw [yP.2 39 k1 (by unfold exS; omega)]; exact h38 39 k1 (by decide) (by decide)
        have i0 : (0 ≤ (k1 : Int)) = True := eq_true (by omega)
        have i1 : ((k1 : Int) < 403) = True := eq_true (by omega)
        have ff := fun (Q : mV → mM → Prop) (c : Int) => y_fail (d := d + 3) (N := P) (Q := Q) (c := c) hP p11 k14 p13
        obtain ⟨m1, hm1⟩ : ∃ m1, gi P 38 k1 = m1 := ⟨_, rfl⟩
        by_cases hcmp : bg B sz k1 < sz ∧ 13 ≤ tk B sz k1 ∧ tk B sz k1 ≤ 16
        · obtain ⟨b1, hcmp⟩ := hcmp
          have b2 : KR (tk B sz k1) (gi T 38 k1) := by
            rcases tokL hT ok1 with ⟨-, b2, -⟩ | ⟨b1', -⟩
            · exact b2
            · omega
          rw [← g38', hm1] at b2
          have m1v : m1 = tk B sz k1 - 2 := by
            rcases b2 with ⟨a, -⟩ | ⟨-, -, e⟩
            · omega
            · rcases (show tk B sz k1 = 13 ∨ tk B sz k1 = 14 ∨ tk B sz k1 = 15 ∨ tk B sz k1 = 16 by omega) with y | y | y | y <;> rw [e, y] <;> rfl
          have hgo : goes 6 0 false (tk B sz k1) := Or.inr (Or.inr (Or.inr (Or.inr (Or.inr (Or.inr ⟨rfl, Or.inr (Or.inr (Or.inr ⟨rfl, rfl, hcmp⟩))⟩)))))
          have ws : wr (m1 - 11) = tk B sz k1 - 13 := by rw [wr_id (by omega) (by omega)]; omega
          have s0 : (tk B sz k1 - 13 < 0) = False := eq_false (by omega)
          have s3 : (tk B sz k1 - 13 ≤ 3) = True := eq_true (by omega)
          have step : WP (mc (d + 4)) tX12_literal 54 [vr (some 35), vi or, vi (500 * sd + c : Nat), vi (500 * sd + c : Nat), vi 4, vj] [] P Q = WP (mc (d + 4)) tX12_literal 102 [vr (some 35), vi or, vi (500 * sd + c : Nat), vi (500 * sd + c : Nat), vi (tk B sz k1 - 13), vj] [] P Q := by
            simp only [↓eX12_literal_54, ↓eX12_literal_55, ↓eX12_literal_58, ↓eX12_literal_61, ↓eX12_literal_62, ↓eX12_literal_65, ↓eX12_literal_66, ↓eX12_literal_69, ↓eX12_literal_70, ↓eX12_literal_73, ↓eX12_literal_74, ↓eX12_literal_76, ↓eX12_literal_77, ↓eX12_literal_79, ↓eX12_literal_80, ↓eX12_literal_83, ↓eX12_literal_86, ↓eX12_literal_88, ↓eX12_literal_91, ↓eX12_literal_93, ↓eX12_literal_94, ↓eX12_literal_97, ↓eX12_literal_98, ↓eX12_literal_99, hk35 hP, hr35_5 hP, hk38 hP, hl38 hP, p13, p11, hm1, i0, i1, ws, s0, s3, Int.cast_ofNat_Int, kd_si, gr_si, ln_si, gi_same, gi_na, gi_ni, nl_i, nl_r, nl_j, nj_i, nj_l, nj_r, true_and, and_true, and_self, cs_0, cs_1, cs_2, cs_3, cs_4, ↓reduceIte, Nat.reduceLeDiff, Nat.reduceEqDiff, Nat.reduceAdd, Int.reduceLE, Int.reduceLT, Int.reduceEq, Int.reduceAdd, Int.reduceNeg, Int.reduceToNat, Int.toNat_natCast, ne_eq, not_false_eq_true, not_true_eq_false, or_true, true_or, or_false, false_or]
          rw [step]
          obtain ⟨c33, -, cd1, c29, c4, c5, c6, c7⟩ := cP
          rw [List.length_nil, Nat.add_zero] at c5
          by_cases k40 : k1 = 400
          · subst k40
            have fn := fun (Q : mV → mM → Prop) => y_nextF (d := d + 2) (N := P) (Q := Q) hP p11 p13
            simp only [↓eX12_literal_102, ↓eX12_literal_103, hk35 hP, ↓fn, Int.cast_ofNat_Int, kd_si, gr_si, ln_si, gi_same, gi_na, gi_ni, nl_i, nl_r, nl_j, nj_i, nj_l, nj_r, true_and, and_true, and_self, cs_0, cs_1, cs_2, cs_3, cs_4, ↓reduceIte, Nat.reduceLeDiff, Nat.reduceEqDiff, Nat.reduceAdd, Int.reduceLE, Int.reduceLT, Int.reduceEq, Int.reduceAdd, Int.reduceNeg, Int.reduceToNat, Int.toNat_natCast, ne_eq, not_false_eq_true, not_true_eq_false, or_true, true_or, or_false, false_or]
            exact dead 400 _ _ _ _ (FL_room hT ok1 sg1 b1 hgo (Or.inl (by omega)) (by simp only [Int.cast_ofNat_Int, kd_si, gr_si, ln_si, gi_same, gi_na, gi_ni, nl_i, nl_r, nl_j, nj_i, nj_l, nj_r, true_and, and_true, and_self, cs_0, cs_1, cs_2, cs_3, cs_4, ↓reduceIte, Nat.reduceLeDiff, Nat.reduceEqDiff, Nat.reduceAdd, Int.reduceLE, Int.reduceLT, Int.reduceEq, Int.reduceAdd, Int.reduceNeg, Int.reduceToNat, Int.toNat_natCast, ne_eq, not_false_eq_true, not_true_eq_false, or_true, true_or, or_false, false_or]) (by rw [gi_same, g39']) (by simp only [Int.cast_ofNat_Int, kd_si, gr_si, ln_si, gi_same, gi_na, gi_ni, nl_i, nl_r, nl_j, nj_i, nj_l, nj_r, true_and, and_true, and_self, cs_0, cs_1, cs_2, cs_3, cs_4, ↓reduceIte, Nat.reduceLeDiff, Nat.reduceEqDiff, Nat.reduceAdd, Int.reduceLE, Int.reduceLT, Int.reduceEq, Int.reduceAdd, Int.reduceNeg, Int.reduceToNat, Int.toNat_natCast, ne_eq, not_false_eq_true, not_true_eq_false, or_true, true_or, or_false, false_or]; exact p11)) (YF_si (e35 14 (by omega)) (YF_si (e35 13 (by omega)) yP'))
          · have fn := fun (Q : mV → mM → Prop) => y_nextG (d := d + 2) (N := P) (Q := Q) (k := k1) hP p11 (by omega)
            obtain ⟨ok2, sg2⟩ := ok_go ok1 sg1 b1 hgo (by unfold much; omega)
            have sg3 : sg B sz (k1 + 1) = (4, 0, true, am, wp, nt1 + 1, R, me, mt, bs, A, O, tk B sz k1, (fun e => (popV w (V e)).headD 0), [], fun _ => []) := by
              rw [sg2]
              unfold nxt
              simp only
              rw [if_neg (by decide), if_neg (by decide), if_neg (by decide), if_neg (by decide), if_neg (by omega), if_neg (by omega), if_neg (by omega), if_pos hcmp]
            have hP1 : SH (si P 35 11 (k1 + 1 : Nat)) := hP
            have yP1 : YF (ltS sd n c) N (si P 35 11 (k1 + 1 : Nat)) := YF_si (e35 11 (by omega)) yP'
            have pi1 := sg_PI k1 ok1
            rw [sg1] at pi1
            obtain ⟨-, -, -, -, -, pw, pl, -⟩ := pi1
            have l1 : ∀ e, (popV w (V e)).length = 1 := fun e => by rw [popV_len w _ (by rw [pl e, if_pos (Or.inr rfl)]), okw_0 w pw]; rfl
            have ex2 := y_expression (d := d) (b := 500 * sd) (lo := cd1) (N := si P 35 11 (k1 + 1 : Nat)) (k := k1 + 1) (Q := fun v S => v = vj ∧ WP (mc (d + 4)) tX12_literal 115 [vr (some 35), vi or, vi (500 * sd + c : Nat), vi (cd1 : Nat), vi (tk B sz k1 - 13), vj] [] S Q) hT (by omega) hP1 (fun a i h1 h2 => by rw [gi_na (by omega), yP.2 a i (by unfold exS; omega)]; exact h38 a i h1 h2) ok2 sg3 (Or.inl rfl) (gi_same _ _ _ _) (by rw [gi_ni (by decide)]; exact p13) (by rw [gi_ni (by decide)]; exact p12) (by rw [gi_ni (by decide)]; exact c29) (by omega)
              (fun k2 nt2 w2 V2 S hk2 ok3 sg4 har2 yS s11 s13 s12 cS => ⟨rfl, by
                have hS := YF_SH yS hP1
                have yS' : YF (ltS sd n c) N S := YF_trans yP1 (ex_lt yS (by omega))
                obtain ⟨-, -, cd2, d29, d4, d5, d6, d7⟩ := cS
                rw [List.length_nil, Nat.add_zero] at d5
                have s19 : gi S 35 19 = sd := by rw [yS'.2 35 19 (by unfold ltS; omega)]; exact h19
                have s46 : gi S 46 sd = n := by rw [yS.2 46 sd (by unfold exS; omega), gi_na (by decide), yP.2 46 sd (by unfold exS; omega)]; exact h46
                have k24 := ok_400 ok3
                rw [y_lit_keep (d := d + 3) (Q := Q) hS hsd s13 s19 s46 hn ho d29]
                obtain ⟨g1, g2, g3, g4, g5, g6⟩ := ltM_g (sd := sd) (n := n) (N := S) (so := tk B sz k1 - 13) (l := (500 * sd + c : Nat)) (r := (cd1 : Nat)) (cc := (cd2 : Nat)) (o := or)
                have pi2 := sg_PI k2 ok3
                rw [sg4] at pi2
                obtain ⟨-, -, -, -, -, pw2, pl2, -⟩ := pi2
                have l2 : ∀ e, (popV w2 (V2 e)).length = 1 := fun e => by rw [popV_len w2 _ (by rw [pl2 e, if_pos (Or.inr rfl)]), okw_0 w2 pw2]; rfl
                have eA : ∀ j, j < cd1 - (500 * sd + c) → gi (ltM S sd n (tk B sz k1 - 13) (500 * sd + c : Nat) (cd1 : Nat) (cd2 : Nat) or) 52 (500 * sd + c + j) = gi P 52 (500 * sd + c + j) ∧ gi (ltM S sd n (tk B sz k1 - 13) (500 * sd + c : Nat) (cd1 : Nat) (cd2 : Nat) or) 53 (500 * sd + c + j) = gi P 53 (500 * sd + c + j) := fun j hj => by
                  rw [ltM_o (by decide), ltM_o (by decide), yS.2 52 _ (by unfold exS; omega), yS.2 53 _ (by unfold exS; omega), gi_na (by decide), gi_na (by decide)]
                  exact ⟨rfl, rfl⟩
                have eB : ∀ j, j < cd2 - cd1 → gi (ltM S sd n (tk B sz k1 - 13) (500 * sd + c : Nat) (cd1 : Nat) (cd2 : Nat) or) 52 (cd1 + j) = gi S 52 (cd1 + j) ∧ gi (ltM S sd n (tk B sz k1 - 13) (500 * sd + c : Nat) (cd1 : Nat) (cd2 : Nat) or) 53 (cd1 + j) = gi S 53 (cd1 + j) := fun j _ => by
                  rw [ltM_o (by decide), ltM_o (by decide)]
                  exact ⟨rfl, rfl⟩
                have rA : ∀ e, rM (ltM S sd n (tk B sz k1 - 13) (500 * sd + c : Nat) (cd1 : Nat) (cd2 : Nat) or) (500 * sd + c) (cd1 - (500 * sd + c)) e = popV w (V e) := fun e => by rw [rM_eq _ eA e]; exact c7 e
                have rB : ∀ e, rM (ltM S sd n (tk B sz k1 - 13) (500 * sd + c : Nat) (cd1 : Nat) (cd2 : Nat) or) cd1 (cd2 - cd1) e = popV w2 (V2 e) := fun e => by rw [rM_eq _ eB e]; exact d7 e
                refine hQ1 k2 6 nt2 true (tk B sz k1) _ w2 V2 (cd2 - 500 * sd) _ ok3 (by omega) sg4 (Or.inr ⟨rfl, rfl⟩) (fun _ => har2) (ltM_YF yS') ?_ ?_ ?_ ?_ (by omega) (by omega) g6 (Or.inr ⟨by rw [g1]; omega, 500 * sd + c, cd1, cd2, g2, g3, g4, by omega, by omega, by omega, by omega, gM_eq eA c6, gM_eq eB d6, fun e => by rw [rA e]; exact l1 e, fun e => by rw [rB e]; exact l2 e⟩) (fun e => ?_) g5 (fun e _ => ?_)
                · rw [ltM_o (by decide)]; exact s11
                · rw [ltM_o (by decide)]; exact s13
                · rw [ltM_o (by decide)]; exact s12
                · rw [ltM_o (by decide), d29]; omega
                · unfold xl lit
                  rw [g1, g2, g3, g4, if_neg (by omega), if_neg (by omega), if_pos rfl]
                  simp only [Int.toNat_natCast]
                  rw [rA e, rB e, show 13 + (tk B sz k1 - 13) = tk B sz k1 by omega]
                · unfold lit
                  rw [if_pos rfl]
                  exact jn_01 hcmp.1 hcmp.2⟩)
              (fun k' S fl yS => ⟨rfl, ret k' S _ _ _ fl (YF_trans yP1 (ex_lt yS (by omega)))⟩)
            simp only [↓eX12_literal_102, ↓eX12_literal_103, ↓eX12_literal_106, ↓eX12_literal_107, ↓eX12_literal_110, ↓eX12_literal_111, ↓eX12_literal_112, hk35 hP, ↓fn, c29, Int.cast_ofNat_Int, kd_si, gr_si, ln_si, gi_same, gi_na, gi_ni, nl_i, nl_r, nl_j, nj_i, nj_l, nj_r, true_and, and_true, and_self, cs_0, cs_1, cs_2, cs_3, cs_4, ↓reduceIte, Nat.reduceLeDiff, Nat.reduceEqDiff, Nat.reduceAdd, Int.reduceLE, Int.reduceLT, Int.reduceEq, Int.reduceAdd, Int.reduceNeg, Int.reduceToNat, Int.toNat_natCast, ne_eq, not_false_eq_true, not_true_eq_false, or_true, true_or, or_false, false_or]
            exact ex2
        · have hns : (wr (m1 - 11) < 0) ∨ 3 < wr (m1 - 11) := by
            rcases tokL hT ok1 with ⟨b1, b2, -⟩ | ⟨b1', b2, -⟩
            · rw [← g38', hm1] at b2
              have m0 := KR_0 b2
              rw [wr_id (by omega) (by omega)]
              have f : ∀ x : Nat, 13 ≤ x → x ≤ 16 → m1 ≠ kmL.getD x 0 := fun x h1 h2 w => by
                have := (KR_c b2 (c := x) (by omega) (by omega)).mp w
                exact hcmp ⟨b1, by omega⟩
              have f13 : m1 ≠ 11 := f 13 (by decide) (by decide)
              have f14 : m1 ≠ 12 := f 14 (by decide) (by decide)
              have f15 : m1 ≠ 13 := f 15 (by decide) (by decide)
              have f16 : m1 ≠ 14 := f 16 (by decide) (by decide)
              omega
            · rw [← g38', hm1] at b2
              rw [b2]
              exact Or.inl (by decide)
          have fl : FL B sz k1 (si (si P 35 13 1) 35 14 (gi P 39 k1)) := FL_syn hT ok1 sg1 (by decide) (fun hb g => by
            have := har hb
            unfold goes fo at g
            simp only [Bool.false_eq_true, false_and, and_false, false_or, true_and] at g
            exact hcmp ⟨hb, by omega⟩) (by simp only [Int.cast_ofNat_Int, kd_si, gr_si, ln_si, gi_same, gi_na, gi_ni, nl_i, nl_r, nl_j, nj_i, nj_l, nj_r, true_and, and_true, and_self, cs_0, cs_1, cs_2, cs_3, cs_4, ↓reduceIte, Nat.reduceLeDiff, Nat.reduceEqDiff, Nat.reduceAdd, Int.reduceLE, Int.reduceLT, Int.reduceEq, Int.reduceAdd, Int.reduceNeg, Int.reduceToNat, Int.toNat_natCast, ne_eq, not_false_eq_true, not_true_eq_false, or_true, true_or, or_false, false_or]) (by rw [gi_same, g39']) (by simp only [Int.cast_ofNat_Int, kd_si, gr_si, ln_si, gi_same, gi_na, gi_ni, nl_i, nl_r, nl_j, nj_i, nj_l, nj_r, true_and, and_true, and_self, cs_0, cs_1, cs_2, cs_3, cs_4, ↓reduceIte, Nat.reduceLeDiff, Nat.reduceEqDiff, Nat.reduceAdd, Int.reduceLE, Int.reduceLT, Int.reduceEq, Int.reduceAdd, Int.reduceNeg, Int.reduceToNat, Int.toNat_natCast, ne_eq, not_false_eq_true, not_true_eq_false, or_true, true_or, or_false, false_or]; exact p11)
          have yR : YF (ltS sd n c) N (si (si P 35 13 1) 35 14 (gi P 39 k1)) := YF_si (e35 14 (by omega)) (YF_si (e35 13 (by omega)) yP')
          have dd := fun so => dead2 k1 _ (500 * sd + c : Nat) (500 * sd + c : Nat) so fl yR
          by_cases z : wr (m1 - 11) < 0
          · simp only [↓eX12_literal_54, ↓eX12_literal_55, ↓eX12_literal_58, ↓eX12_literal_61, ↓eX12_literal_62, ↓eX12_literal_65, ↓eX12_literal_66, ↓eX12_literal_69, ↓eX12_literal_70, ↓eX12_literal_73, ↓eX12_literal_74, ↓eX12_literal_76, ↓eX12_literal_77, ↓eX12_literal_79, ↓eX12_literal_80, ↓eX12_literal_83, ↓eX12_literal_86, ↓eX12_literal_88, ↓eX12_literal_91, ↓eX12_literal_93, ↓eX12_literal_94, ↓eX12_literal_97, ↓eX12_literal_98, ↓eX12_literal_99, hk35 hP, hr35_5 hP, hk38 hP, hl38 hP, ↓ff, p13, p11, hm1, i0, i1, z, Int.cast_ofNat_Int, kd_si, gr_si, ln_si, gi_same, gi_na, gi_ni, nl_i, nl_r, nl_j, nj_i, nj_l, nj_r, true_and, and_true, and_self, cs_0, cs_1, cs_2, cs_3, cs_4, ↓reduceIte, Nat.reduceLeDiff, Nat.reduceEqDiff, Nat.reduceAdd, Int.reduceLE, Int.reduceLT, Int.reduceEq, Int.reduceAdd, Int.reduceNeg, Int.reduceToNat, Int.toNat_natCast, ne_eq, not_false_eq_true, not_true_eq_false, or_true, true_or, or_false, false_or]
            exact dd _
          · have z2 : (wr (m1 - 11) ≤ 3) = False := eq_false (by omega)
            simp only [↓eX12_literal_54, ↓eX12_literal_55, ↓eX12_literal_58, ↓eX12_literal_61, ↓eX12_literal_62, ↓eX12_literal_65, ↓eX12_literal_66, ↓eX12_literal_69, ↓eX12_literal_70, ↓eX12_literal_73, ↓eX12_literal_74, ↓eX12_literal_76, ↓eX12_literal_77, ↓eX12_literal_79, ↓eX12_literal_80, ↓eX12_literal_83, ↓eX12_literal_86, ↓eX12_literal_88, ↓eX12_literal_91, ↓eX12_literal_93, ↓eX12_literal_94, ↓eX12_literal_97, ↓eX12_literal_98, ↓eX12_literal_99, hk35 hP, hr35_5 hP, hk38 hP, hl38 hP, ↓ff, p13, p11, hm1, i0, i1, z, z2, Int.cast_ofNat_Int, kd_si, gr_si, ln_si, gi_same, gi_na, gi_ni, nl_i, nl_r, nl_j, nj_i, nj_l, nj_r, true_and, and_true, and_self, cs_0, cs_1, cs_2, cs_3, cs_4, ↓reduceIte, Nat.reduceLeDiff, Nat.reduceEqDiff, Nat.reduceAdd, Int.reduceLE, Int.reduceLT, Int.reduceEq, Int.reduceAdd, Int.reduceNeg, Int.reduceToNat, Int.toNat_natCast, ne_eq, not_false_eq_true, not_true_eq_false, or_true, true_or, or_false, false_or]
            exact dd _⟩)
      (fun k' P fl yP => ⟨rfl, by
        have hP := YF_SH yP h
        have f0 : (gi P 35 13 ≤ 0) = False := eq_false (by rw [fl.2.1]; have := fl.2.2.1; omega)
        have f1 : (gi P 35 13 = 0) = False := eq_false (by rw [fl.2.1]; have := fl.2.2.1; omega)
        simp only [↓eX12_literal_54, ↓eX12_literal_55, ↓eX12_literal_58, ↓eX12_literal_61, ↓eX12_literal_62, ↓eX12_literal_65, ↓eX12_literal_66, ↓eX12_literal_69, ↓eX12_literal_70, ↓eX12_literal_73, ↓eX12_literal_74, ↓eX12_literal_76, ↓eX12_literal_77, ↓eX12_literal_79, ↓eX12_literal_80, ↓eX12_literal_83, hk35 hP, f0, f1, Int.cast_ofNat_Int, kd_si, gr_si, ln_si, gi_same, gi_na, gi_ni, nl_i, nl_r, nl_j, nj_i, nj_l, nj_r, true_and, and_true, and_self, cs_0, cs_1, cs_2, cs_3, cs_4, ↓reduceIte, Nat.reduceLeDiff, Nat.reduceEqDiff, Nat.reduceAdd, Int.reduceLE, Int.reduceLT, Int.reduceEq, Int.reduceAdd, Int.reduceNeg, Int.reduceToNat, Int.toNat_natCast, ne_eq, not_false_eq_true, not_true_eq_false, or_true, true_or, or_false, false_or]
        exact dead2 k' P _ _ _ fl (ex_lt yP (Nat.le_refl _))⟩)
    simp only [↓cpX12_literal, ↓eX12_literal_0, ↓eX12_literal_1, ↓eX12_literal_4, ↓eX12_literal_5, ↓eX12_literal_6, ↓eX12_literal_9, ↓eX12_literal_10, ↓eX12_literal_11, ↓eX12_literal_13, ↓eX12_literal_14, ↓eX12_literal_16, ↓eX12_literal_19, ↓eX12_literal_22, ↓eX12_literal_23, ↓eX12_literal_25, ↓eX12_literal_28, ↓eX12_literal_50, ↓eX12_literal_51, hk35 h, ↓fis, h13, hmk, m25.1, m25.2, h29, and_false, Int.cast_ofNat_Int, kd_si, gr_si, ln_si, gi_same, gi_na, gi_ni, nl_i, nl_r, nl_j, nj_i, nj_l, nj_r, true_and, and_true, and_self, cs_0, cs_1, cs_2, cs_3, cs_4, ↓reduceIte, Nat.reduceLeDiff, Nat.reduceEqDiff, Nat.reduceAdd, Int.reduceLE, Int.reduceLT, Int.reduceEq, Int.reduceAdd, Int.reduceNeg, Int.reduceToNat, Int.toNat_natCast, ne_eq, not_false_eq_true, not_true_eq_false, or_true, true_or, or_false, false_or]
    exact ex
end LIT2
