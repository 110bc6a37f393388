/-! ===== the reference reads a rule ===== -/
theorem lt_rm {sd n c : Nat} {M N : mM} (h : YF (ltS sd n c) M N) (hn : n < 400) : YF (rmS sd) M N := YF_mono (fun a i z => by unfold ltS at z; unfold rmS; omega) h
theorem y_mustD {d : Nat} {N : mM} {Q : mV → mM → Prop} {t : Nat} {c : Int} (h : SH N) (h11 : gi N 35 11 = t) (ht : t ≤ 400) (h13 : 0 < gi N 35 13) : CP (mc (d + 3)) 138 [vr (some 35), vi c] N Q = Q vj N := by
  have f0 : (gi N 35 13 = 0) = False := eq_false (by omega)
  have fis := fun (Q : mV → mM → Prop) (c : Int) => y_is (d := d + 1) (N := N) (Q := Q) (c := c) h h11 ht
  have ff := fun (Q : mV → mM → Prop) (c : Int) => y_failN (d := d + 1) (N := N) (Q := Q) (c := c) h h13
  simp only [↓cpX12_must, ↓eX12_must_0, ↓eX12_must_1, ↓eX12_must_2, ↓eX12_must_5, ↓eX12_must_8, ↓eX12_must_9, ↓eX12_must_12, ↓eX12_must_15, ↓eX12_must_16, ↓eX12_must_17, ↓eX12_must_20, hk35 h, ↓fis, ↓ff, f0, false_and, Int.cast_ofNat_Int, kd_si, gr_si, ln_si, gi_same, gi_na, gi_ni, nl_i, nl_r, nl_j, nj_i, nj_l, nj_r, true_and, and_true, and_self, cs_0, cs_1, cs_2, cs_3, cs_4, ↓reduceIte, Nat.reduceLeDiff, Nat.reduceEqDiff, Nat.reduceAdd, Int.reduceLE, Int.reduceLT, Int.reduceEq, Int.reduceAdd, Int.reduceNeg, Int.reduceToNat, Int.toNat_natCast, ne_eq, not_false_eq_true, not_true_eq_false, or_true, true_or, or_false, false_or]
theorem y_mustN {d : Nat} {N : mM} {Q : mV → mM → Prop} {k : Nat} {c : Int} (h : SH N) (h11 : gi N 35 11 = k) (hk : k ≤ 400) (h13 : gi N 35 13 = 0) (hc : gi N 38 k ≠ c) : CP (mc (d + 3)) 138 [vr (some 35), vi c] N Q = Q vj (si (si N 35 13 1) 35 14 (gi N 39 k)) := by
  have fis := fun (Q : mV → mM → Prop) (c : Int) => y_is (d := d + 1) (N := N) (Q := Q) (c := c) h h11 hk
  have ff := fun (Q : mV → mM → Prop) (c : Int) => y_fail (d := d + 1) (N := N) (Q := Q) (c := c) h h11 hk h13
  simp only [↓cpX12_must, ↓eX12_must_0, ↓eX12_must_1, ↓eX12_must_2, ↓eX12_must_5, ↓eX12_must_8, ↓eX12_must_9, ↓eX12_must_12, ↓eX12_must_15, ↓eX12_must_16, ↓eX12_must_17, ↓eX12_must_20, hk35 h, ↓fis, ↓ff, h13, hc, and_false, Int.cast_ofNat_Int, kd_si, gr_si, ln_si, gi_same, gi_na, gi_ni, nl_i, nl_r, nl_j, nj_i, nj_l, nj_r, true_and, and_true, and_self, cs_0, cs_1, cs_2, cs_3, cs_4, ↓reduceIte, Nat.reduceLeDiff, Nat.reduceEqDiff, Nat.reduceAdd, Int.reduceLE, Int.reduceLT, Int.reduceEq, Int.reduceAdd, Int.reduceNeg, Int.reduceToNat, Int.toNat_natCast, ne_eq, not_false_eq_true, not_true_eq_false, or_true, true_or, or_false, false_or]
theorem y_mustY {d : Nat} {N : mM} {Q : mV → mM → Prop} {k : Nat} {c : Int} (h : SH N) (h11 : gi N 35 11 = k) (hk : k < 400) (h13 : gi N 35 13 = 0) (hc : gi N 38 k = c) : CP (mc (d + 3)) 138 [vr (some 35), vi c] N Q = Q vj (si N 35 11 (k + 1 : Nat)) := by
  have fis := fun (Q : mV → mM → Prop) (c : Int) => y_is (d := d + 1) (N := N) (Q := Q) (c := c) h h11 (by omega)
  have fn := fun (Q : mV → mM → Prop) => y_nextG (d := d) (N := N) (Q := Q) h h11 hk
  simp only [↓cpX12_must, ↓eX12_must_0, ↓eX12_must_1, ↓eX12_must_2, ↓eX12_must_5, ↓eX12_must_8, ↓eX12_must_9, ↓eX12_must_12, ↓eX12_must_15, ↓eX12_must_16, ↓eX12_must_17, ↓eX12_must_20, hk35 h, ↓fis, ↓fn, h13, hc, Int.cast_ofNat_Int, kd_si, gr_si, ln_si, gi_same, gi_na, gi_ni, nl_i, nl_r, nl_j, nj_i, nj_l, nj_r, true_and, and_true, and_self, cs_0, cs_1, cs_2, cs_3, cs_4, ↓reduceIte, Nat.reduceLeDiff, Nat.reduceEqDiff, Nat.reduceAdd, Int.reduceLE, Int.reduceLT, Int.reduceEq, Int.reduceAdd, Int.reduceNeg, Int.reduceToNat, Int.toNat_natCast, ne_eq, not_false_eq_true, not_true_eq_false, or_true, true_or, or_false, false_or]
theorem y_mustF {d : Nat} {N : mM} {Q : mV → mM → Prop} {c : Int} (h : SH N) (h11 : gi N 35 11 = (400 : Nat)) (h13 : gi N 35 13 = 0) (hc : gi N 38 400 = c) : CP (mc (d + 3)) 138 [vr (some 35), vi c] N Q = Q vj (si (si N 35 13 2) 35 14 (gi N 39 400)) := by
  have fis := fun (Q : mV → mM → Prop) (c : Int) => y_is (d := d + 1) (N := N) (Q := Q) (c := c) h h11 (by decide)
  have fn := fun (Q : mV → mM → Prop) => y_nextF (d := d) (N := N) (Q := Q) h h11 h13
  simp only [↓cpX12_must, ↓eX12_must_0, ↓eX12_must_1, ↓eX12_must_2, ↓eX12_must_5, ↓eX12_must_8, ↓eX12_must_9, ↓eX12_must_12, ↓eX12_must_15, ↓eX12_must_16, ↓eX12_must_17, ↓eX12_must_20, hk35 h, ↓fis, ↓fn, h13, hc, Int.cast_ofNat_Int, kd_si, gr_si, ln_si, gi_same, gi_na, gi_ni, nl_i, nl_r, nl_j, nj_i, nj_l, nj_r, true_and, and_true, and_self, cs_0, cs_1, cs_2, cs_3, cs_4, ↓reduceIte, Nat.reduceLeDiff, Nat.reduceEqDiff, Nat.reduceAdd, Int.reduceLE, Int.reduceLT, Int.reduceEq, Int.reduceAdd, Int.reduceNeg, Int.reduceToNat, Int.toNat_natCast, ne_eq, not_false_eq_true, not_true_eq_false, or_true, true_or, or_false, false_or]
def o01 (o : Int) : Prop := o = 0 ∨ o = 1
def O1 (o : Int) (bs : Nat) : Prop := o ≠ 0 ↔ bs = 0 ∨ bs = 1
def S5 (st : Nat) (cm : Bool) : Prop := st = 5 ∨ (st = 6 ∧ cm = true)
def NAR (B : Nat → Int) (sz st k : Nat) : Prop := st = 6 → bg B sz k < sz → ¬ (17 ≤ tk B sz k ∧ tk B sz k ≤ 19)
theorem O1_and (bs : Nat) : O1 0 (if bs = 1 ∨ bs = 3 then 3 else 2) := by
  unfold O1
  by_cases y : bs = 1 ∨ bs = 3
  · rw [if_pos y]; decide
  · rw [if_neg y]; decide
section TR
variable {d : Nat} {Q : mV → mM → Prop} {B : Nat → Int} {sz sd k0 R : Nat} {T N0 : mM} {am wp : Int} {me : Nat → Env → Int} {mt : Nat → Int}
theorem y_tr_dead {P : mM} {k : Nat} (a1 a2 a3 a4 : mV) (h : SH P) (fl : FL B sz k P) (hQ : Q vj P) : WP (mc (d + 5)) tX12_tellRule 218 [vr (some 35), a1, a2, a3, a4] [] P Q := by
  obtain ⟨t, t4, ht⟩ := fl.2.2.2.2
  have f0 : 0 < gi P 35 13 := by rw [fl.2.1]; exact fl.2.2.1
  have f1 : (gi P 35 13 ≤ 0) = False := eq_false (by omega)
  have fm := fun (Q : mV → mM → Prop) (c : Int) => y_mustD (d := d + 2) (N := P) (Q := Q) (c := c) h ht t4 f0
  simp only [↓eX12_tellRule_218, ↓eX12_tellRule_219, ↓eX12_tellRule_220, ↓eX12_tellRule_223, ↓eX12_tellRule_224, ↓eX12_tellRule_227, ↓eX12_tellRule_230, hk35 h, ↓fm, f1, Int.cast_ofNat_Int, kd_si, gr_si, ln_si, gi_same, gi_na, gi_ni, nl_i, nl_r, nl_j, nj_i, nj_l, nj_r, true_and, and_true, and_self, cs_0, cs_1, cs_2, cs_3, cs_4, ↓reduceIte, Nat.reduceLeDiff, Nat.reduceEqDiff, Nat.reduceAdd, Int.reduceLE, Int.reduceLT, Int.reduceEq, Int.reduceAdd, Int.reduceNeg, Int.reduceToNat, Int.toNat_natCast, ne_eq, not_false_eq_true, not_true_eq_false, or_true, true_or, or_false, false_or]
  exact hQ
/-- behind a literal -/
theorem y_tr_after (hT : TKB B sz T) (hsd : sd ≤ 1) (h0 : SH N0) (h38 : ∀ a i, 38 ≤ a → a ≤ 40 → gi N0 a i = gi T a i)
    (hQ1 : ∀ k P, k0 < k → ok B sz k → (sg B sz k).1 = 0 → RT sd k P (sg B sz k) → YF (rmS sd) N0 P → Q vj P) (hQ2 : ∀ k P, FL B sz k P → YF (rmS sd) N0 P → Q vj P)
    {k' st' nt' bs c' n : Nat} {cm' : Bool} {ck' or : Int} {A O L' : Env → Int} {w' : List Int} {V' : Env → List Int} {P : mM} {a1 a2 : mV}
    (ih : ∀ (nt bs : Nat) (A O : Env → Int) (ck : Int) (L : Env → Int) (or : Int) (c n : Nat) (N : mM), ok B sz (k' + 1) → sg B sz (k' + 1) = (3, 0, false, am, wp, nt, R, me, mt, bs, A, O, ck, L, [], fun _ => []) → YF (rmS sd) N0 N → gi N 35 11 = (k' + 1 : Nat) → gi N 35 13 = 0 → gi N 35 12 = 0 → gi N 35 19 = sd → gi N 43 sd = R → WPR N wp → gi N 35 29 = (500 * sd + c : Nat) → c ≤ k' + 1 → gi N 46 sd = n → n + 1 ≤ k' + 1 → fr N sd R ≤ n → MRU N sd R me mt c → (∀ i, fr N sd R ≤ i → i < n → VL N sd c i) → FO N sd (fr N sd R) (n - fr N sd R) bs A O → o01 or → O1 or bs → gi N 44 (20 * sd + R) = am → WP (mc (d + 5)) tX12_tellRule 162 [vr (some 35), a1, a2, vi or, vi 1] [] N Q)
    (n2 : nl a2) (hk0 : k0 < k') (ok' : ok B sz k') (sg' : sg B sz k' = (st', 0, cm', am, wp, nt', R, me, mt, bs, A, O, ck', L', w', V')) (hst' : S5 st' cm') (har : NAR B sz st' k') (yP' : YF (rmS sd) N0 P) (p11 : gi P 35 11 = (k' : Nat)) (p13 : gi P 35 13 = 0) (p12 : gi P 35 12 = 0) (p19 : gi P 35 19 = sd) (p43 : gi P 43 sd = R) (pw : WPR P wp) (p29 : gi P 35 29 = (500 * sd + c' : Nat)) (hck : c' ≤ k') (p46 : gi P 46 sd = (n + 1 : Nat)) (hn : n + 2 ≤ k') (hfr : fr P sd R ≤ n) (hM' : MRU P sd R me mt c') (hV' : ∀ i, fr P sd R ≤ i → i < n + 1 → VL P sd c' i) (hF' : FO P sd (fr P sd R) (n - fr P sd R) bs A O) (hb3 : bs ≤ 3) (ho2 : O1 or bs) (h51 : gi P 51 (400 * sd + (fr P sd R + (n - fr P sd R))) = or) (hx' : ∀ e, xl P sd (fr P sd R + (n - fr P sd R)) e = lit cm' ck' L' w' V' e) (h01 : ∀ e, EV e → lit cm' ck' L' w' V' e = 0 ∨ lit cm' ck' L' w' V' e = 1) (p44 : gi P 44 (20 * sd + R) = am) (hR : R < 20) :
    WP (mc (d + 5)) tX12_tellRule 179 [vr (some 35), a1, a2, vi or, vi 1] [] P Q := by
  have hP := YF_SH yP' h0
  have k4' := ok_400 ok'
  have hnt' := sg_n sg'
  have e35 : ∀ i, (11 ≤ i ∧ i ≤ 16) ∨ i = 29 ∨ i = 33 → rmS sd 35 i := fun i hi => Or.inl ⟨rfl, hi⟩
  have e11 : rmS sd 35 11 := e35 11 (by decide)
  have e13 : rmS sd 35 13 := e35 13 (by decide)
  have e14 : rmS sd 35 14 := e35 14 (by decide)
  clear e35
  have g38' : gi P 38 k' = gi T 38 k' := by rw [yP'.2 38 k' (by unfold rmS; omega)]; exact h38 38 k' (by decide) (by decide)
  have g39' : gi P 39 k' = gi T 39 k' := by rw [yP'.2 39 k' (by unfold rmS; omega)]; exact h38 39 k' (by decide) (by decide)
  have fis := fun (Q : mV → mM → Prop) (c : Int) => y_is (d := d + 4) (N := P) (Q := Q) (c := c) hP p11 k4'
  obtain ⟨mk, hmk⟩ : ∃ mk, gi P 38 k' = mk := ⟨_, rfl⟩
  have en1 : n + 1 - fr P sd R = (n - fr P sd R) + 1 := by omega
  have gfl : bg B sz k' < sz → (goes st' 0 cm' (tk B sz k') ↔ fl3 (tk B sz k')) := fun hb' => by
    unfold NAR at har
    rcases hst' with z | ⟨z, z2⟩
    · subst z
      constructor
      · intro g
        rcases g with g | g | g | g | g | g | g
        · exact absurd g.1 (by decide)
        · exact absurd g.1 (by decide)
        · exact absurd g.1 (by decide)
        · exact absurd g.1 (by decide)
        · exact absurd g.1 (by decide)
        · exact g.2
        · exact absurd g.1 (by decide)
      · intro g; exact Or.inr (Or.inr (Or.inr (Or.inr (Or.inr (Or.inl ⟨rfl, g⟩)))))
    · subst z
      subst z2
      have na := har rfl hb'
      constructor
      · intro g
        rcases g with g | g | g | g | g | g | g
        · exact absurd g.1 (by decide)
        · exact absurd g.1 (by decide)
        · exact absurd g.1 (by decide)
        · exact absurd g.1 (by decide)
        · exact absurd g.1 (by decide)
        · exact absurd g.1 (by decide)
        · rcases g.2 with q | q | q | q
          · exact absurd q na
          · exact absurd q.1 (by decide)
          · exact q.2.2
          · exact absurd q.2.1 (by decide)
      · intro g
        exact Or.inr (Or.inr (Or.inr (Or.inr (Or.inr (Or.inr ⟨rfl, Or.inr (Or.inr (Or.inl ⟨rfl, rfl, g⟩))⟩)))))
  have s56 : ¬ st' = 0 ∧ ¬ st' = 1 ∧ ¬ st' = 2 ∧ ¬ (st' = 3 ∨ st' = 4) := by
    rcases hst' with z | ⟨z, -⟩ <;> subst z <;> decide
  obtain ⟨s0, s1, s2, s3⟩ := s56
  -- after and, or
  have cont : ∀ (o' : Int) (bs2 : Nat) (A2 O2 : Env → Int), bg B sz k' < sz → goes st' 0 cm' (tk B sz k') → tk B sz k' ≠ 20 → nxt (st', 0, cm', am, wp, nt', R, me, mt, bs, A, O, ck', L', w', V') (tk B sz k') (tvv B sz k') (bg B sz k') = (3, 0, false, am, wp, nt' + 1, R, me, mt, bs2, A2, O2, ck', L', [], fun _ => []) → o01 o' → O1 o' bs2 → FO P sd (fr P sd R) ((n - fr P sd R) + 1) bs2 A2 O2 → WP (mc (d + 5)) tX12_tellRule 211 [vr (some 35), a1, a2, vi o', vi 1] [] P Q := by
    clear gfl s3
    intro o' bs2 A2 O2 b1 hgo n20 hnx ho' ho1' hFO
    by_cases k40 : k' = 400
    · subst k40
      have fn := fun (Q : mV → mM → Prop) => y_nextF (d := d + 3) (N := P) (Q := Q) hP p11 p13
      have fl : FL B sz 400 (si (si P 35 13 2) 35 14 (gi P 39 400)) := FL_room hT ok' sg' b1 hgo (Or.inl (by omega)) (by simp only [Int.cast_ofNat_Int, kd_si, gr_si, ln_si, gi_same, gi_na, gi_ni, nl_i, nl_r, nl_j, nj_i, nj_l, nj_r, true_and, and_true, and_self, cs_0, cs_1, cs_2, cs_3, cs_4, ↓reduceIte, Nat.reduceLeDiff, Nat.reduceEqDiff, Nat.reduceAdd, Int.reduceLE, Int.reduceLT, Int.reduceEq, Int.reduceAdd, Int.reduceNeg, Int.reduceToNat, Int.toNat_natCast, ne_eq, not_false_eq_true, not_true_eq_false, or_true, true_or, or_false, false_or]) (by rw [gi_same, g39']) (by simp only [Int.cast_ofNat_Int, kd_si, gr_si, ln_si, gi_same, gi_na, gi_ni, nl_i, nl_r, nl_j, nj_i, nj_l, nj_r, true_and, and_true, and_self, cs_0, cs_1, cs_2, cs_3, cs_4, ↓reduceIte, Nat.reduceLeDiff, Nat.reduceEqDiff, Nat.reduceAdd, Int.reduceLE, Int.reduceLT, Int.reduceEq, Int.reduceAdd, Int.reduceNeg, Int.reduceToNat, Int.toNat_natCast, ne_eq, not_false_eq_true, not_true_eq_false, or_true, true_or, or_false, false_or]; exact p11)
      have yR : YF (rmS sd) N0 (si (si P 35 13 2) 35 14 (gi P 39 400)) := YF_si e14 (YF_si e13 yP')
      simp only [↓eX12_tellRule_211, ↓eX12_tellRule_212, ↓eX12_tellRule_215, hk35 hP, ↓fn, Int.cast_ofNat_Int, kd_si, gr_si, ln_si, gi_same, gi_na, gi_ni, nl_i, nl_r, nl_j, nj_i, nj_l, nj_r, true_and, and_true, and_self, cs_0, cs_1, cs_2, cs_3, cs_4, ↓reduceIte, Nat.reduceLeDiff, Nat.reduceEqDiff, Nat.reduceAdd, Int.reduceLE, Int.reduceLT, Int.reduceEq, Int.reduceAdd, Int.reduceNeg, Int.reduceToNat, Int.toNat_natCast, ne_eq, not_false_eq_true, not_true_eq_false, or_true, true_or, or_false, false_or]
      rw [eX12_tellRule_162]
      simp only [↓eX12_tellRule_164, ↓eX12_tellRule_167, ↓eX12_tellRule_168, ↓eX12_tellRule_171, hk35 hP, Int.cast_ofNat_Int, kd_si, gr_si, ln_si, gi_same, gi_na, gi_ni, nl_i, nl_r, nl_j, nj_i, nj_l, nj_r, true_and, and_true, and_self, cs_0, cs_1, cs_2, cs_3, cs_4, ↓reduceIte, Nat.reduceLeDiff, Nat.reduceEqDiff, Nat.reduceAdd, Int.reduceLE, Int.reduceLT, Int.reduceEq, Int.reduceAdd, Int.reduceNeg, Int.reduceToNat, Int.toNat_natCast, ne_eq, not_false_eq_true, not_true_eq_false, or_true, true_or, or_false, false_or]
      exact y_tr_dead _ _ _ _ hP fl (hQ2 400 _ fl yR)
    · have fn := fun (Q : mV → mM → Prop) => y_nextG (d := d + 3) (N := P) (Q := Q) (k := k') hP p11 (by omega)
      have mm : ¬ much st' 0 nt' R (tk B sz k') := by
        intro m
        rcases m with m | m | m
        · omega
        · exact s0 m.1
        · exact n20 m.1
      obtain ⟨ok2, sg2⟩ := ok_go ok' sg' b1 hgo mm
      rw [hnx] at sg2
      simp only [↓eX12_tellRule_211, ↓eX12_tellRule_212, ↓eX12_tellRule_215, hk35 hP, ↓fn, Int.cast_ofNat_Int, kd_si, gr_si, ln_si, gi_same, gi_na, gi_ni, nl_i, nl_r, nl_j, nj_i, nj_l, nj_r, true_and, and_true, and_self, cs_0, cs_1, cs_2, cs_3, cs_4, ↓reduceIte, Nat.reduceLeDiff, Nat.reduceEqDiff, Nat.reduceAdd, Int.reduceLE, Int.reduceLT, Int.reduceEq, Int.reduceAdd, Int.reduceNeg, Int.reduceToNat, Int.toNat_natCast, ne_eq, not_false_eq_true, not_true_eq_false, or_true, true_or, or_false, false_or]
      obtain ⟨S, hS⟩ : ∃ S, S = si P 35 11 (k' + 1 : Nat) := ⟨_, rfl⟩
      rw [← hS]
      have yS : YF (rmS sd) N0 S := by rw [hS]; exact YF_si e11 yP'
      have o35 : ∀ i, i ≠ 11 → gi S 35 i = gi P 35 i := fun i hi => by rw [hS, gi_ni hi]
      have oth : ∀ a i, a ≠ 35 → gi S a i = gi P a i := fun a i ha => by rw [hS, gi_na ha]
      have frS : fr S sd R = fr P sd R := by unfold fr; rw [oth 45 _ (by decide)]
      have MS : MRU S sd R me mt c' := MRU_f (fun r hr => oth 45 _ (by decide)) (fun r hr => oth 44 _ (by decide)) (fun a i h1 h2 _ => oth a _ (fun w => by omega)) (fun j _ => ⟨oth 52 j (by decide), oth 53 j (by decide)⟩) (Nat.le_refl _) hM'
      have VS : ∀ i, fr S sd R ≤ i → i < n + 1 → VL S sd c' i ∧ ∀ e, xl S sd i e = xl P sd i e := fun i h1 h2 => VL_f (fun a ha hb => oth a _ (fun w => by omega)) (fun j _ => ⟨oth 52 j (by decide), oth 53 j (by decide)⟩) (Nat.le_refl _) (hV' i (by rw [← frS]; exact h1) h2)
      have FS : FO S sd (fr S sd R) (n + 1 - fr S sd R) bs2 A2 O2 := by
        rw [frS, en1]
        exact FO_f (fun i h1 h2 => ⟨oth 51 _ (by decide), (VS i (by rw [frS]; exact h1) (by omega)).2⟩) hFO
      have wS : WPR S wp := by
        unfold WPR at pw ⊢
        rw [o35 15 (by decide), o35 16 (by decide)]
        exact pw
      exact ih (nt' + 1) bs2 A2 O2 ck' L' o' c' (n + 1) S ok2 sg2 yS (by rw [hS, gi_same]) (by rw [o35 13 (by decide)]; exact p13) (by rw [o35 12 (by decide)]; exact p12) (by rw [o35 19 (by decide)]; exact p19) (by rw [oth 43 _ (by decide)]; exact p43) wS (by rw [o35 29 (by decide)]; exact p29) (by omega) (by rw [oth 46 _ (by decide)]; exact p46) (by omega) (by rw [frS]; omega) MS (fun i h1 h2 => (VS i h1 h2).1) FS ho' ho1' (by rw [oth 44 _ (by decide)]; exact p44)
  have ends : mk ≠ 23 → mk ≠ 24 → WP (mc (d + 5)) tX12_tellRule 179 [vr (some 35), a1, a2, vi or, vi 1] [] P Q = WP (mc (d + 5)) tX12_tellRule 218 [vr (some 35), a1, a2, vi 0, vi 0] [] P Q := by
    intro m23 m24
    simp only [↓eX12_tellRule_179, ↓eX12_tellRule_180, ↓eX12_tellRule_182, ↓eX12_tellRule_185, ↓eX12_tellRule_186, ↓eX12_tellRule_187, ↓eX12_tellRule_190, ↓eX12_tellRule_191, ↓eX12_tellRule_193, ↓eX12_tellRule_196, ↓eX12_tellRule_199, ↓eX12_tellRule_200, ↓eX12_tellRule_203, ↓eX12_tellRule_204, ↓eX12_tellRule_206, ↓eX12_tellRule_208, hk35 hP, ↓fis, p13, hmk, m23, m24, n2, and_false, Int.cast_ofNat_Int, kd_si, gr_si, ln_si, gi_same, gi_na, gi_ni, nl_i, nl_r, nl_j, nj_i, nj_l, nj_r, true_and, and_true, and_self, cs_0, cs_1, cs_2, cs_3, cs_4, ↓reduceIte, Nat.reduceLeDiff, Nat.reduceEqDiff, Nat.reduceAdd, Int.reduceLE, Int.reduceLT, Int.reduceEq, Int.reduceAdd, Int.reduceNeg, Int.reduceToNat, Int.toNat_natCast, ne_eq, not_false_eq_true, not_true_eq_false, or_true, true_or, or_false, false_or]
    rw [eX12_tellRule_162]
    simp only [↓eX12_tellRule_164, Int.cast_ofNat_Int, kd_si, gr_si, ln_si, gi_same, gi_na, gi_ni, nl_i, nl_r, nl_j, nj_i, nj_l, nj_r, true_and, and_true, and_self, cs_0, cs_1, cs_2, cs_3, cs_4, ↓reduceIte, Nat.reduceLeDiff, Nat.reduceEqDiff, Nat.reduceAdd, Int.reduceLE, Int.reduceLT, Int.reduceEq, Int.reduceAdd, Int.reduceNeg, Int.reduceToNat, Int.toNat_natCast, ne_eq, not_false_eq_true, not_true_eq_false, or_true, true_or, or_false, false_or]
  have synt : mk ≠ 4 → (bg B sz k' < sz → ¬ goes st' 0 cm' (tk B sz k')) → WP (mc (d + 5)) tX12_tellRule 218 [vr (some 35), a1, a2, vi 0, vi 0] [] P Q := by
    intro m4 hns
    have fm := fun (Q : mV → mM → Prop) => y_mustN (d := d + 2) (N := P) (Q := Q) (k := k') (c := 4) hP p11 k4' p13 (by rw [hmk]; exact m4)
    have fl : FL B sz k' (si (si P 35 13 1) 35 14 (gi P 39 k')) := FL_syn hT ok' sg' s0 hns (by simp only [Int.cast_ofNat_Int, kd_si, gr_si, ln_si, gi_same, gi_na, gi_ni, nl_i, nl_r, nl_j, nj_i, nj_l, nj_r, true_and, and_true, and_self, cs_0, cs_1, cs_2, cs_3, cs_4, ↓reduceIte, Nat.reduceLeDiff, Nat.reduceEqDiff, Nat.reduceAdd, Int.reduceLE, Int.reduceLT, Int.reduceEq, Int.reduceAdd, Int.reduceNeg, Int.reduceToNat, Int.toNat_natCast, ne_eq, not_false_eq_true, not_true_eq_false, or_true, true_or, or_false, false_or]) (by rw [gi_same, g39']) (by simp only [Int.cast_ofNat_Int, kd_si, gr_si, ln_si, gi_same, gi_na, gi_ni, nl_i, nl_r, nl_j, nj_i, nj_l, nj_r, true_and, and_true, and_self, cs_0, cs_1, cs_2, cs_3, cs_4, ↓reduceIte, Nat.reduceLeDiff, Nat.reduceEqDiff, Nat.reduceAdd, Int.reduceLE, Int.reduceLT, Int.reduceEq, Int.reduceAdd, Int.reduceNeg, Int.reduceToNat, Int.toNat_natCast, ne_eq, not_false_eq_true, not_true_eq_false, or_true, true_or, or_false, false_or]; exact p11)
    simp only [↓eX12_tellRule_218, ↓eX12_tellRule_219, ↓eX12_tellRule_220, ↓eX12_tellRule_223, ↓eX12_tellRule_224, ↓eX12_tellRule_227, ↓eX12_tellRule_230, hk35 hP, ↓fm, Int.cast_ofNat_Int, kd_si, gr_si, ln_si, gi_same, gi_na, gi_ni, nl_i, nl_r, nl_j, nj_i, nj_l, nj_r, true_and, and_true, and_self, cs_0, cs_1, cs_2, cs_3, cs_4, ↓reduceIte, Nat.reduceLeDiff, Nat.reduceEqDiff, Nat.reduceAdd, Int.reduceLE, Int.reduceLT, Int.reduceEq, Int.reduceAdd, Int.reduceNeg, Int.reduceToNat, Int.toNat_natCast, ne_eq, not_false_eq_true, not_true_eq_false, or_true, true_or, or_false, false_or]
    exact hQ2 k' _ fl (YF_si e14 (YF_si e13 yP'))
  rcases tokL hT ok' with ⟨b1, b2, -, -⟩ | ⟨b1, b2, -⟩
  · rw [← g38', hmk] at b2
    have c23 := KR_c b2 (c := 11) (by decide) (by decide)
    have c24 := KR_c b2 (c := 12) (by decide) (by decide)
    have c4 := KR_c b2 (c := 22) (by decide) (by decide)
    by_cases zo : tk B sz k' = 11
    · have mm : mk = 23 := c23.mpr zo
      have hgo := (gfl b1).mpr (Or.inr (Or.inl zo))
      have := cont 1 1 A (gor bs O (gan bs A (lit cm' ck' L' w' V'))) b1 hgo (by rw [zo]; decide) (by
        unfold nxt
        simp only
        rw [if_neg s0, if_neg s1, if_neg s2, if_neg s3, zo, if_neg (by decide), if_neg (by decide), if_neg (by decide), if_neg (by decide), if_neg (by decide), if_pos rfl]) (Or.inr rfl) (by unfold O1; decide) (FO_or hF' hb3 ho2 h51 hx' h01 A)
      simp only [↓eX12_tellRule_179, ↓eX12_tellRule_180, ↓eX12_tellRule_182, ↓eX12_tellRule_185, ↓eX12_tellRule_186, ↓eX12_tellRule_187, ↓eX12_tellRule_190, ↓eX12_tellRule_191, ↓eX12_tellRule_193, ↓eX12_tellRule_196, ↓eX12_tellRule_199, ↓eX12_tellRule_200, ↓eX12_tellRule_203, ↓eX12_tellRule_204, ↓eX12_tellRule_206, ↓eX12_tellRule_208, hk35 hP, ↓fis, p13, hmk, mm, n2, and_false, Int.cast_ofNat_Int, kd_si, gr_si, ln_si, gi_same, gi_na, gi_ni, nl_i, nl_r, nl_j, nj_i, nj_l, nj_r, true_and, and_true, and_self, cs_0, cs_1, cs_2, cs_3, cs_4, ↓reduceIte, Nat.reduceLeDiff, Nat.reduceEqDiff, Nat.reduceAdd, Int.reduceLE, Int.reduceLT, Int.reduceEq, Int.reduceAdd, Int.reduceNeg, Int.reduceToNat, Int.toNat_natCast, ne_eq, not_false_eq_true, not_true_eq_false, or_true, true_or, or_false, false_or]
      exact this
    by_cases za : tk B sz k' = 12
    · have mm : mk = 24 := c24.mpr za
      have hgo := (gfl b1).mpr (Or.inl za)
      have := cont 0 (if bs = 1 ∨ bs = 3 then 3 else 2) (gan bs A (lit cm' ck' L' w' V')) O b1 hgo (by rw [za]; decide) (by
        unfold nxt
        simp only
        rw [if_neg s0, if_neg s1, if_neg s2, if_neg s3, za, if_neg (by decide), if_neg (by decide), if_neg (by decide), if_neg (by decide), if_pos rfl]) (Or.inl rfl) (O1_and bs) (FO_and hF' hb3 ho2 h51 hx' h01)
      simp only [↓eX12_tellRule_179, ↓eX12_tellRule_180, ↓eX12_tellRule_182, ↓eX12_tellRule_185, ↓eX12_tellRule_186, ↓eX12_tellRule_187, ↓eX12_tellRule_190, ↓eX12_tellRule_191, ↓eX12_tellRule_193, ↓eX12_tellRule_196, ↓eX12_tellRule_199, ↓eX12_tellRule_200, ↓eX12_tellRule_203, ↓eX12_tellRule_204, ↓eX12_tellRule_206, ↓eX12_tellRule_208, hk35 hP, ↓fis, p13, hmk, mm, n2, and_false, Int.cast_ofNat_Int, kd_si, gr_si, ln_si, gi_same, gi_na, gi_ni, nl_i, nl_r, nl_j, nj_i, nj_l, nj_r, true_and, and_true, and_self, cs_0, cs_1, cs_2, cs_3, cs_4, ↓reduceIte, Nat.reduceLeDiff, Nat.reduceEqDiff, Nat.reduceAdd, Int.reduceLE, Int.reduceLT, Int.reduceEq, Int.reduceAdd, Int.reduceNeg, Int.reduceToNat, Int.toNat_natCast, ne_eq, not_false_eq_true, not_true_eq_false, or_true, true_or, or_false, false_or]
      exact this
    rw [ends (fun w => zo (c23.mp w)) (fun w => za (c24.mp w))]
    by_cases zs : tk B sz k' = 22
    · have m4 : mk = 4 := c4.mpr zs
      have hgo := (gfl b1).mpr (Or.inr (Or.inr zs))
      clear cont ends synt gfl c23 c24 c4 b2
      by_cases k40 : k' = 400
      · subst k40
        have fm := fun (Q : mV → mM → Prop) => y_mustF (d := d + 2) (N := P) (Q := Q) (c := 4) hP p11 p13 (by rw [hmk]; exact m4)
        have fl : FL B sz 400 (si (si P 35 13 2) 35 14 (gi P 39 400)) := FL_room hT ok' sg' b1 hgo (Or.inl (by omega)) (by simp only [Int.cast_ofNat_Int, kd_si, gr_si, ln_si, gi_same, gi_na, gi_ni, nl_i, nl_r, nl_j, nj_i, nj_l, nj_r, true_and, and_true, and_self, cs_0, cs_1, cs_2, cs_3, cs_4, ↓reduceIte, Nat.reduceLeDiff, Nat.reduceEqDiff, Nat.reduceAdd, Int.reduceLE, Int.reduceLT, Int.reduceEq, Int.reduceAdd, Int.reduceNeg, Int.reduceToNat, Int.toNat_natCast, ne_eq, not_false_eq_true, not_true_eq_false, or_true, true_or, or_false, false_or]) (by rw [gi_same, g39']) (by simp only [Int.cast_ofNat_Int, kd_si, gr_si, ln_si, gi_same, gi_na, gi_ni, nl_i, nl_r, nl_j, nj_i, nj_l, nj_r, true_and, and_true, and_self, cs_0, cs_1, cs_2, cs_3, cs_4, ↓reduceIte, Nat.reduceLeDiff, Nat.reduceEqDiff, Nat.reduceAdd, Int.reduceLE, Int.reduceLT, Int.reduceEq, Int.reduceAdd, Int.reduceNeg, Int.reduceToNat, Int.toNat_natCast, ne_eq, not_false_eq_true, not_true_eq_false, or_true, true_or, or_false, false_or]; exact p11)
        have yR : YF (rmS sd) N0 (si (si P 35 13 2) 35 14 (gi P 39 400)) := YF_si e14 (YF_si e13 yP')
        simp only [↓eX12_tellRule_218, ↓eX12_tellRule_219, ↓eX12_tellRule_220, ↓eX12_tellRule_223, ↓eX12_tellRule_224, ↓eX12_tellRule_227, ↓eX12_tellRule_230, hk35 hP, ↓fm, Int.cast_ofNat_Int, kd_si, gr_si, ln_si, gi_same, gi_na, gi_ni, nl_i, nl_r, nl_j, nj_i, nj_l, nj_r, true_and, and_true, and_self, cs_0, cs_1, cs_2, cs_3, cs_4, ↓reduceIte, Nat.reduceLeDiff, Nat.reduceEqDiff, Nat.reduceAdd, Int.reduceLE, Int.reduceLT, Int.reduceEq, Int.reduceAdd, Int.reduceNeg, Int.reduceToNat, Int.toNat_natCast, ne_eq, not_false_eq_true, not_true_eq_false, or_true, true_or, or_false, false_or]
        exact hQ2 400 _ fl yR
      · have fm := fun (Q : mV → mM → Prop) => y_mustY (d := d + 2) (N := P) (Q := Q) (k := k') (c := 4) hP p11 (by omega) p13 (by rw [hmk]; exact m4)
        have mm : ¬ much st' 0 nt' R (tk B sz k') := by
          intro m
          rcases m with m | m | m
          · omega
          · exact s0 m.1
          · rw [zs] at m; exact absurd m.1 (by decide)
        obtain ⟨ok2, sg2⟩ := ok_go ok' sg' b1 hgo mm
        have sg3 : sg B sz (k' + 1) = (0, 0, false, am, wp, nt' + 1, R + 1, (fun r => if r = R then gor bs O (gan bs A (lit cm' ck' L' w' V')) else me r), (fun r => if r = R then am else mt r), 0, A, O, ck', L', [], fun _ => []) := by
          rw [sg2]
          unfold nxt
          simp only
          rw [if_neg s0, if_neg s1, if_neg s2, if_neg s3, zs, if_neg (by decide), if_neg (by decide), if_neg (by decide), if_neg (by decide), if_neg (by decide), if_neg (by decide)]
        clear s3 mm hgo
        have sd0 : (0 ≤ (sd : Int)) = True := eq_true (by omega)
        have sd1 : ((sd : Int) < 2) = True := eq_true (by omega)
        have wR : wr ((R : Int) + 1) = ((R + 1 : Nat) : Int) := by rw [wr_id (by omega) (by omega)]; omega
        have w21 : wr (21 * (sd : Int)) = ((21 * sd : Nat) : Int) := by rw [wr_id (by omega) (by omega)]; omega
        have w22 : wr (((21 * sd : Nat) : Int) + ((R + 1 : Nat) : Int)) = ((21 * sd + (R + 1) : Nat) : Int) := by rw [wr_id (by omega) (by omega)]; omega
        have f0 : (0 ≤ ((21 * sd + (R + 1) : Nat) : Int)) = True := eq_true (by omega)
        have f1 : (((21 * sd + (R + 1) : Nat) : Int) < 42) = True := eq_true (by omega)
        simp only [↓eX12_tellRule_218, ↓eX12_tellRule_219, ↓eX12_tellRule_220, ↓eX12_tellRule_223, ↓eX12_tellRule_224, ↓eX12_tellRule_227, ↓eX12_tellRule_230, ↓eX12_tellRule_231, ↓eX12_tellRule_232, ↓eX12_tellRule_235, ↓eX12_tellRule_236, ↓eX12_tellRule_239, ↓eX12_tellRule_240, ↓eX12_tellRule_241, ↓eX12_tellRule_242, ↓eX12_tellRule_243, ↓eX12_tellRule_244, ↓eX12_tellRule_245, ↓eX12_tellRule_248, ↓eX12_tellRule_250, ↓eX12_tellRule_251, ↓eX12_tellRule_254, ↓eX12_tellRule_255, ↓eX12_tellRule_256, ↓eX12_tellRule_259, ↓eX12_tellRule_260, ↓eX12_tellRule_263, ↓eX12_tellRule_264, ↓eX12_tellRule_265, ↓eX12_tellRule_266, ↓eX12_tellRule_269, ↓eX12_tellRule_270, ↓eX12_tellRule_273, ↓eX12_tellRule_274, ↓eX12_tellRule_275, hk35 hP, hr35_20 hP, hr35_22 hP, hr35_23 hP, hk43 hP, hl43 hP, hk45 hP, hl45 hP, hk46 hP, hl46 hP, ↓fm, p13, p19, p43, p46, sd0, sd1, wR, w21, w22, f0, f1, Int.cast_ofNat_Int, kd_si, gr_si, ln_si, gi_same, gi_na, gi_ni, nl_i, nl_r, nl_j, nj_i, nj_l, nj_r, true_and, and_true, and_self, cs_0, cs_1, cs_2, cs_3, cs_4, ↓reduceIte, Nat.reduceLeDiff, Nat.reduceEqDiff, Nat.reduceAdd, Int.reduceLE, Int.reduceLT, Int.reduceEq, Int.reduceAdd, Int.reduceNeg, Int.reduceToNat, Int.toNat_natCast, ne_eq, not_false_eq_true, not_true_eq_false, or_true, true_or, or_false, false_or]
        obtain ⟨S, hS⟩ : ∃ S, S = si (si (si P 35 11 (k' + 1 : Nat)) 43 sd (R + 1 : Nat)) 45 (21 * sd + (R + 1)) (n + 1 : Nat) := ⟨_, rfl⟩
        rw [← hS]
        have yS : YF (rmS sd) N0 S := by rw [hS]; exact YF_si (Or.inr (Or.inr (Or.inr (Or.inl ⟨rfl, by omega, by omega⟩)))) (YF_si (Or.inr (Or.inl ⟨rfl, rfl⟩)) (YF_si e11 yP'))
        have o35 : ∀ i, i ≠ 11 → gi S 35 i = gi P 35 i := fun i hi => by rw [hS, gi_na (by decide), gi_na (by decide), gi_ni hi]
        have oth : ∀ a i, a ≠ 35 → a ≠ 43 → a ≠ 45 → gi S a i = gi P a i := fun a i h1 h2 h3 => by rw [hS, gi_na h3, gi_na h2, gi_na h1]
        have f45 : ∀ r, r ≤ R → gi S 45 (21 * sd + r) = gi P 45 (21 * sd + r) := fun r hr => by rw [hS, gi_ni (by omega), gi_na (by decide), gi_na (by decide)]
        have f45R : gi S 45 (21 * sd + (R + 1)) = (n + 1 : Nat) := by rw [hS, gi_same]
        have MS : MRU S sd R me mt c' := MRU_f f45 (fun r hr => oth 44 _ (by decide) (by decide) (by decide)) (fun a i h1 h2 _ => oth a _ (fun w => by omega) (fun w => by omega) (fun w => by omega)) (fun j _ => ⟨oth 52 j (by decide) (by decide) (by decide), oth 53 j (by decide) (by decide) (by decide)⟩) (Nat.le_refl _) hM'
        have frS : fr S sd R = fr P sd R := by unfold fr; rw [f45 R (Nat.le_refl R)]
        have frS1 : fr S sd (R + 1) = n + 1 := by unfold fr; rw [f45R, Int.toNat_natCast]
        have VS : ∀ i, fr P sd R ≤ i → i < n + 1 → VL S sd c' i ∧ ∀ e, xl S sd i e = xl P sd i e := fun i h1 h2 => VL_f (fun a ha hb => oth a _ (fun w => by omega) (fun w => by omega) (fun w => by omega)) (fun j _ => ⟨oth 52 j (by decide) (by decide) (by decide), oth 53 j (by decide) (by decide) (by decide)⟩) (Nat.le_refl _) (hV' i h1 h2)
        refine hQ1 (k' + 1) S (by omega) ok2 (by rw [sg3]) ?_ yS
        rw [sg3]
        refine ⟨by rw [hS, gi_na (by decide), gi_na (by decide), gi_same], by rw [o35 13 (by decide)]; exact p13, by rw [o35 12 (by decide)]; exact p12, by rw [o35 19 (by decide)]; exact p19, by rw [hS, gi_na (by decide), gi_same], ?_, c', n + 1, by rw [o35 29 (by decide)]; exact p29, by omega, by rw [oth 46 _ (by decide) (by decide) (by decide)]; exact p46, by omega, frS1, ⟨fun r hr => ?_, fun r hr => ?_⟩⟩
        · unfold WPR at pw ⊢
          rw [o35 15 (by decide), o35 16 (by decide)]
          exact pw
        · by_cases z : r = R + 1
          · rw [z, f45R]; omega
          · exact MS.1 r (by omega)
        · by_cases z : r = R
          · subst z
            rw [frS, frS1, en1]
            refine ⟨by rw [oth 44 _ (by decide) (by decide) (by decide), p44]; exact (if_pos rfl).symm, by omega, fun i h1 h2 => (VS i h1 h2).1, fun e he => ?_⟩
            rw [hfo_f (M := P) _ (fun i h1 h2 => ⟨oth 51 _ (by decide) (by decide) (by decide), (VS i h1 (by omega)).2⟩) e]
            simp only [if_pos]
            exact FO_stop hF' hb3 ho2 h51 hx' h01 e he
          · have := MS.2 r (by omega)
            simp only [if_neg z]
            exact this
    · exact synt (fun w => zs (c4.mp w)) (fun _ g => by
        rcases (gfl b1).mp g with q | q | q
        · exact za q
        · exact zo q
        · exact zs q)
  · rw [← g38', hmk] at b2
    rw [ends (by rw [b2]; decide) (by rw [b2]; decide)]
    exact synt (by rw [b2]; decide) (fun q => by rw [b1] at q; exact absurd q (Nat.lt_irrefl _))
theorem y_tr_loop (hT : TKB B sz T) (hsd : sd ≤ 1) (h0 : SH N0) (h38 : ∀ a i, 38 ≤ a → a ≤ 40 → gi N0 a i = gi T a i)
    (hQ1 : ∀ k P, k0 < k → ok B sz k → (sg B sz k).1 = 0 → RT sd k P (sg B sz k) → YF (rmS sd) N0 P → Q vj P) (hQ2 : ∀ k P, FL B sz k P → YF (rmS sd) N0 P → Q vj P) :
    ∀ (f k nt bs : Nat) (A O : Env → Int) (ck : Int) (L : Env → Int) (or : Int) (c n : Nat) (N : mM) (a1 a2 : mV), 401 - k ≤ f → k0 < k → ok B sz k → sg B sz k = (3, 0, false, am, wp, nt, R, me, mt, bs, A, O, ck, L, [], fun _ => []) → YF (rmS sd) N0 N → gi N 35 11 = k → gi N 35 13 = 0 → gi N 35 12 = 0 → gi N 35 19 = sd → gi N 43 sd = R → WPR N wp → gi N 35 29 = (500 * sd + c : Nat) → c ≤ k → gi N 46 sd = n → n + 1 ≤ k → fr N sd R ≤ n → MRU N sd R me mt c → (∀ i, fr N sd R ≤ i → i < n → VL N sd c i) → FO N sd (fr N sd R) (n - fr N sd R) bs A O → o01 or → O1 or bs → gi N 44 (20 * sd + R) = am → nl a2 → WP (mc (d + 5)) tX12_tellRule 162 [vr (some 35), a1, a2, vi or, vi 1] [] N Q := by
  intro f
  induction f with
  | zero =>
    intro k nt bs A O ck L or c n N a1 a2 hf hk0 hk
    have := ok_400 hk
    omega
  | succ f ih =>
    intro k nt bs A O ck L or c n N a1 a2 hf hk0 hk hs yN g11 g13 g12 g19 g43 gw g29 hc g46 hn hfr hM hV hF ho ho2 g44 n2
    have hN := YF_SH yN h0
    have k4 := ok_400 hk
    have hb3R : bs ≤ 3 ∧ R < 20 := by
      have pi0 := sg_PI k hk
      rw [hs] at pi0
      exact ⟨pi0.2.2.2.2.1, pi0.2.2.2.2.2.2.2.2.2.2 (by decide)⟩
    obtain ⟨hb3, hR⟩ := hb3R
    have lit := y_literal (d := d) (Q := fun v P => v = vj ∧ WP (mc (d + 5)) tX12_tellRule 179 [vr (some 35), a1, a2, vi or, vi 1] [] P Q) hT hsd hN (fun a i h1 h2 => by rw [yN.2 a i (by unfold rmS; omega)]; exact h38 a i h1 h2) hk hs g11 g13 g12 g19 g29 hc g46 (by omega) ho
      (fun k' st' nt' cm' ck' L' w' V' c' P ok' hkk sg' hst' har yP p11 p13 p12 p29 hcc hck p46 hVL hxl p51 h01 => ⟨rfl, by
        have hst2 : S5 st' cm' := hst'
        have har2 : NAR B sz st' k' := har
        clear hst' har
        have yP' : YF (rmS sd) N0 P := YF_trans yN (lt_rm yP (by omega))
        have pw : WPR P wp := by
          unfold WPR at gw ⊢
          rw [yP.2 35 15 (by unfold ltS; omega), yP.2 35 16 (by unfold ltS; omega)]
          exact gw
        have efr : fr P sd R = fr N sd R := by unfold fr; rw [yP.2 45 _ (by unfold ltS; omega)]
        have hcd : ∀ j, j < 500 * sd + c → gi P 52 j = gi N 52 j ∧ gi P 53 j = gi N 53 j := fun j hj => ⟨yP.2 52 j (by unfold ltS; omega), yP.2 53 j (by unfold ltS; omega)⟩
        have hli : ∀ a i, 47 ≤ a → a ≤ 51 → i < n → gi P a (400 * sd + i) = gi N a (400 * sd + i) := fun a i h1 h2 h3 => yP.2 a _ (by unfold ltS; omega)
        have hM' : MRU P sd R me mt c' := MRU_f (fun r hr => yP.2 45 _ (by unfold ltS; omega)) (fun r hr => yP.2 44 _ (by unfold ltS; omega)) (fun a i h1 h2 h3 => hli a i h1 h2 (by omega)) hcd hcc hM
        have old : ∀ i, fr N sd R ≤ i → i < n → VL P sd c' i ∧ ∀ e, xl P sd i e = xl N sd i e := fun i h1 h2 => VL_f (fun a ha hb => hli a i ha hb h2) hcd hcc (hV i h1 h2)
        have en : fr P sd R + (n - fr P sd R) = n := by rw [efr]; omega
        refine y_tr_after (k' := k') (n := n) hT hsd h0 h38 hQ1 hQ2 (fun nt bs A O ck L or c n N q1 q2 q3 q4 q5 q6 q7 q8 q9 q10 q11 q12 q13 q14 q15 q16 q17 q18 q19 q20 => ih (k' + 1) nt bs A O ck L or c n N a1 a2 (by omega) (by omega) q1 q2 q3 q4 q5 q6 q7 q8 q9 q10 q11 q12 q13 q14 q15 q16 q17 q18 q19 q20 n2) n2 (by omega) ok' sg' hst2 har2 yP' p11 p13 p12 (by rw [yP.2 35 19 (by unfold ltS; omega)]; exact g19) (by rw [yP.2 43 sd (by unfold ltS; omega)]; exact g43) pw p29 hck p46 (by omega) (by rw [efr]; exact hfr) hM' (fun i h1 h2 => ?_) ?_ hb3 ho2 (by rw [en]; exact p51) (fun e => by rw [en]; exact hxl e) h01 (by rw [yP.2 44 _ (by unfold ltS; omega)]; exact g44) hR
        · rw [efr] at h1
          by_cases z : i = n
          · rw [z]; exact hVL
          · exact (old i h1 (by omega)).1
        · rw [efr]
          exact FO_f (fun i h1 h2 => ⟨hli 51 i (by decide) (by decide) (by omega), (old i h1 (by omega)).2⟩) hF⟩)
      (fun k' P fl yP => ⟨rfl, by
        have hP := YF_SH yP hN
        obtain ⟨t, t4, ht⟩ := fl.2.2.2.2
        have f1 : (gi P 35 13 = 0) = False := eq_false (by rw [fl.2.1]; have := fl.2.2.1; omega)
        have fis := fun (Q : mV → mM → Prop) (c : Int) => y_is (d := d + 4) (N := P) (Q := Q) (c := c) hP ht t4
        simp only [↓eX12_tellRule_179, ↓eX12_tellRule_180, ↓eX12_tellRule_182, ↓eX12_tellRule_185, ↓eX12_tellRule_186, ↓eX12_tellRule_187, ↓eX12_tellRule_190, ↓eX12_tellRule_191, ↓eX12_tellRule_193, ↓eX12_tellRule_196, ↓eX12_tellRule_199, ↓eX12_tellRule_200, ↓eX12_tellRule_203, ↓eX12_tellRule_204, ↓eX12_tellRule_206, ↓eX12_tellRule_208, hk35 hP, ↓fis, f1, n2, false_and, Int.cast_ofNat_Int, kd_si, gr_si, ln_si, gi_same, gi_na, gi_ni, nl_i, nl_r, nl_j, nj_i, nj_l, nj_r, true_and, and_true, and_self, cs_0, cs_1, cs_2, cs_3, cs_4, ↓reduceIte, Nat.reduceLeDiff, Nat.reduceEqDiff, Nat.reduceAdd, Int.reduceLE, Int.reduceLT, Int.reduceEq, Int.reduceAdd, Int.reduceNeg, Int.reduceToNat, Int.toNat_natCast, ne_eq, not_false_eq_true, not_true_eq_false, or_true, true_or, or_false, false_or]
        rw [eX12_tellRule_162]
        simp only [↓eX12_tellRule_164, Int.cast_ofNat_Int, kd_si, gr_si, ln_si, gi_same, gi_na, gi_ni, nl_i, nl_r, nl_j, nj_i, nj_l, nj_r, true_and, and_true, and_self, cs_0, cs_1, cs_2, cs_3, cs_4, ↓reduceIte, Nat.reduceLeDiff, Nat.reduceEqDiff, Nat.reduceAdd, Int.reduceLE, Int.reduceLT, Int.reduceEq, Int.reduceAdd, Int.reduceNeg, Int.reduceToNat, Int.toNat_natCast, ne_eq, not_false_eq_true, not_true_eq_false, or_true, true_or, or_false, false_or]
        exact y_tr_dead _ _ _ _ hP fl (hQ2 k' P fl (YF_trans yN (lt_rm yP (by omega))))⟩)
    rw [eX12_tellRule_162]
    simp only [↓eX12_tellRule_164, ↓eX12_tellRule_167, ↓eX12_tellRule_168, ↓eX12_tellRule_171, ↓eX12_tellRule_174, ↓eX12_tellRule_175, ↓eX12_tellRule_176, hk35 hN, g13, Int.cast_ofNat_Int, kd_si, gr_si, ln_si, gi_same, gi_na, gi_ni, nl_i, nl_r, nl_j, nj_i, nj_l, nj_r, true_and, and_true, and_self, cs_0, cs_1, cs_2, cs_3, cs_4, ↓reduceIte, Nat.reduceLeDiff, Nat.reduceEqDiff, Nat.reduceAdd, Int.reduceLE, Int.reduceLT, Int.reduceEq, Int.reduceAdd, Int.reduceNeg, Int.reduceToNat, Int.toNat_natCast, ne_eq, not_false_eq_true, not_true_eq_false, or_true, true_or, or_false, false_or]
    exact lit
end TR
