theorem gi_ad {N : mM} {c u w s : Int} : gi (adM N c u w s) 20 5 = c ∧ gi (adM N c u w s) 20 6 = u ∧ gi (adM N c u w s) 20 7 = w ∧ gi (adM N c u w s) 20 8 = s := by
  unfold adM
  refine ⟨?_, ?_, ?_, gi_same _ _ _ _⟩
  · rw [gi_ni (by decide), gi_ni (by decide), gi_ni (by decide), gi_same]
  · rw [gi_ni (by decide), gi_ni (by decide), gi_same]
  · rw [gi_ni (by decide), gi_same]
theorem gi_ado {N : mM} {c u w s : Int} {i : Nat} (h : 9 ≤ i) : gi (adM N c u w s) 20 i = gi N 20 i := by
  unfold adM
  rw [gi_ni (by omega), gi_ni (by omega), gi_ni (by omega), gi_ni (by omega)]
theorem gi_kb {N : mM} {i : Nat} (h : i < 9) : gi (kbM N) 20 i = gi N 20 i := by
  unfold kbM
  rw [gi_ni (by omega), gi_ni (by omega), gi_ni (by omega), gi_ni (by omega)]
theorem gi_kbo {N : mM} : gi (kbM N) 20 9 = gi N 20 5 ∧ gi (kbM N) 20 10 = gi N 20 6 ∧ gi (kbM N) 20 11 = gi N 20 7 ∧ gi (kbM N) 20 12 = gi N 20 8 := by
  unfold kbM
  refine ⟨?_, ?_, ?_, gi_same _ _ _ _⟩
  · rw [gi_ni (by decide), gi_ni (by decide), gi_ni (by decide), gi_same]
  · rw [gi_ni (by decide), gi_ni (by decide), gi_same]
  · rw [gi_ni (by decide), gi_same]
theorem YF_ad {B N : mM} {c u w s : Int} (h : YF scS B N) : YF scS B (adM N c u w s) := YF_si (by unfold scS; omega) (YF_si (by unfold scS; omega) (YF_si (by unfold scS; omega) (YF_si (by unfold scS; omega) h)))
theorem YF_kb {B N : mM} (h : YF scS B N) : YF scS B (kbM N) := YF_si (by unfold scS; omega) (YF_si (by unfold scS; omega) (YF_si (by unfold scS; omega) (YF_si (by unfold scS; omega) h)))
section SEARCH2
variable {p n : Nat} {B : mM} {cl : Nat → Nat} {wt fr un way : Nat → Int} {may : Nat → Bool} {one : Nat → Nat → Bool} {tu room : Int}
theorem BS_ad {N : mM} {c u w s : Int} {o : Option Nat} (h : BS n wt fr un way N o) : BS n wt fr un way (adM N c u w s) o := by
  cases o with
  | none =>
    have h' : gi N 20 10 = -1 := h
    show gi (adM N c u w s) 20 10 = -1
    rw [gi_ado (by decide)]
    exact h'
  | some b =>
    obtain ⟨h1, h2, h3, h4⟩ := h
    refine ⟨?_, ?_, ?_, ?_⟩
    · rw [gi_ado (by decide)]; exact h1
    · rw [gi_ado (by decide)]; exact h2
    · rw [gi_ado (by decide)]; exact h3
    · rw [gi_ado (by decide)]; exact h4
theorem sc_c {N : mM} (h : YF scS B N) {a i : Nat} (ha : a ≠ 20) : gi N a i = gi B a i := h.2 a i (fun w => ha w.1)
theorem sc_s {N : mM} (h : YF scS B N) {i : Nat} (hi : i < 5) : gi N 20 i = gi B 20 i := h.2 20 i (fun w => by unfold scS at w; omega)
/-- one is added -/
theorem x_add1 {d c i : Nat} {N : mM} {Q : mV → mM → Prop} (hA : CA B p n cl wt fr un way may one) (hS : SN n wt fr un way) (h : SH B) (hi : i < n) (hc : c < 2 ^ i) (hN : YF scS B N) (hs : ST n wt fr un way N c) : CP (mc (d + 2)) 54 [vr (some 20), vr (some (cl i)), vi (i : Nat), vi 1] N Q = Q vj (adM N ((c ^^^ 2 ^ i : Nat) : Int) (sm way (c ^^^ 2 ^ i) n) (sm wt (c ^^^ 2 ^ i) n) (sm (spn fr un) (c ^^^ 2 ^ i) n)) := by
  obtain ⟨hp, hn, h0, hj⟩ := hA
  obtain ⟨⟨j1, j2, j3⟩, ⟨j4, j5, j6, j7, j8⟩, -⟩ := hj i hi
  obtain ⟨s1, s2, s3, s4⟩ := hs
  have b1 := SN_b hS hn c
  have bi := hS i hi
  have ne : cl i ≠ 20 := by omega
  rw [x_addOrDrop (by rw [YF_k hN]; exact hk20 h) (by rw [YF_k hN]; exact j2) j3 s1 (lt16 (n := i) (by omega) hc) (by omega) (by rw [sc_c hN ne, j7]; exact bi.2.2)]
  rw [sm_add hc hi, sm_add hc hi, sm_add hc hi, sc_c hN ne, sc_c hN ne, sc_c hN ne, sc_c hN ne, j4, j5, j6, j7, s2, s3, s4]
  unfold spn
  have e1 : wr (sm way c n + (if way i = 0 then 0 else 1)) = sm way c n + way i := by
    rcases bi.2.2 with w | w
    · rw [if_pos w, w, wr_id (by omega) (by omega)]
    · rw [if_neg (by omega), w, wr_id (by omega) (by omega)]
  have e2 : wr (sm wt c n + wr (1 * wt i)) = sm wt c n + wt i := by
    rw [Int.one_mul, wr_id (z := wt i) (by omega) (by omega), wr_id (by omega) (by omega)]
  have e3 : wr (sm (spn fr un) c n + wr (1 * wr (un i - fr i))) = sm (spn fr un) c n + (un i - fr i) := by
    rw [Int.one_mul, wr_id (z := un i - fr i) (by omega) (by omega), wr_id (z := un i - fr i) (by omega) (by omega), wr_id (by omega) (by omega)]
  unfold spn at e3
  rw [e1, e2, e3]
/-- and dropped -/
theorem x_drop1 {d c i : Nat} {N : mM} {Q : mV → mM → Prop} (hA : CA B p n cl wt fr un way may one) (hS : SN n wt fr un way) (h : SH B) (hi : i < n) (hc : c < 2 ^ i) (hN : YF scS B N) (hs : ST n wt fr un way N (c ^^^ 2 ^ i)) : CP (mc (d + 2)) 54 [vr (some 20), vr (some (cl i)), vi (i : Nat), vi (-1)] N Q = Q vj (adM N (c : Int) (sm way c n) (sm wt c n) (sm (spn fr un) c n)) := by
  obtain ⟨hp, hn, h0, hj⟩ := hA
  obtain ⟨⟨j1, j2, j3⟩, ⟨j4, j5, j6, j7, j8⟩, -⟩ := hj i hi
  obtain ⟨s1, s2, s3, s4⟩ := hs
  have b1 := SN_b hS hn c
  have bi := hS i hi
  have ne : cl i ≠ 20 := by omega
  rw [x_addOrDrop (by rw [YF_k hN]; exact hk20 h) (by rw [YF_k hN]; exact j2) j3 s1 (lt16 (n := i + 1) (by omega) (add_lt hc)) (by omega) (by rw [sc_c hN ne, j7]; exact bi.2.2)]
  rw [add_back, sc_c hN ne, sc_c hN ne, sc_c hN ne, sc_c hN ne, j4, j5, j6, j7, s2, s3, s4, sm_add hc hi, sm_add hc hi, sm_add hc hi]
  unfold spn
  unfold spn at b1
  have e1 : wr (sm way c n + way i + (if way i = 0 then 0 else -1)) = sm way c n := by
    rcases bi.2.2 with w | w
    · rw [if_pos w, w, wr_id (by omega) (by omega)]; omega
    · rw [if_neg (by omega), w, wr_id (by omega) (by omega)]; omega
  have e2 : wr (sm wt c n + wt i + wr (-1 * wt i)) = sm wt c n := by
    rw [wr_id (z := -1 * wt i) (by omega) (by omega), wr_id (by omega) (by omega)]; omega
  have e3 : wr (sm (fun j => un j - fr j) c n + (un i - fr i) + wr (-1 * wr (un i - fr i))) = sm (fun j => un j - fr j) c n := by
    rw [wr_id (z := un i - fr i) (by omega) (by omega), wr_id (z := -1 * (un i - fr i)) (by omega) (by omega), wr_id (by omega) (by omega)]; omega
  exact congrArg (Q vj) (by
    show adM N _ _ _ _ = adM N _ _ _ _
    rw [e1, e2]
    exact congrArg (adM N _ _ _) e3)
theorem ST_ad {N : mM} {c : Nat} : ST n wt fr un way (adM N (c : Int) (sm way c n) (sm wt c n) (sm (spn fr un) c n)) c := gi_ad
/-- not better: the best so far beats what is behind -/
theorem nb_bet {b c i t : Nat} (hS : SN n wt fr un way) (hc : c < 2 ^ i) (hi : i ≤ n) (ht : VC n fr un may one tu room t) (he : ∀ j, j < i → t.testBit j = c.testBit j) (hl : lexB b t) (hb : ¬ btr (sm way c n + ahd way (n - i) i) (sm wt c n + ahd (may0 may wt) (n - i) i) (sm (spn fr un) c n) (sm way b n) (sm wt b n) (sm (spn fr un) b n)) : bet n way wt (spn fr un) b t := by
  obtain ⟨e1, e2, e3⟩ := ext_bd hS hc hi ht he
  unfold bet
  by_cases q1 : sm way t n < sm way b n
  · exact Or.inl q1
  · have q1' : sm way t n = sm way b n := by omega
    refine Or.inr ⟨q1', ?_⟩
    by_cases q2 : sm wt t n < sm wt b n
    · exact Or.inl q2
    · have q2' : sm wt t n = sm wt b n := by omega
      refine Or.inr ⟨q2', ?_⟩
      by_cases q3 : sm (spn fr un) b n < sm (spn fr un) t n
      · exact Or.inl q3
      · exact Or.inr ⟨by omega, hl⟩
theorem ext_all {c t : Nat} (hc : c < 2 ^ n) (ht : t < 2 ^ n) (he : ∀ j, j < n → t.testBit j = c.testBit j) : t = c := Nat.eq_of_testBit_eq (fun j => by
  rcases Nat.lt_or_ge j n with w | w
  · exact he j w
  · rw [Nat.testBit_lt_two_pow (Nat.lt_of_lt_of_le ht (Nat.pow_le_pow_right (n := 2) (by decide) w)), Nat.testBit_lt_two_pow (Nat.lt_of_lt_of_le hc (Nat.pow_le_pow_right (n := 2) (by decide) w))])
theorem btr_bet {b c : Nat} (h : btr (sm way c n) (sm wt c n) (sm (spn fr un) c n) (sm way b n) (sm wt b n) (sm (spn fr un) b n)) : bet n way wt (spn fr un) c b := by
  unfold bet
  rcases h with h | ⟨h1, h | ⟨h2, h3⟩⟩
  · exact Or.inl h
  · exact Or.inr ⟨h1.symm, Or.inl h⟩
  · exact Or.inr ⟨h1.symm, Or.inr ⟨h2.symm, Or.inl h3⟩⟩
end SEARCH2
theorem x_search {p n : Nat} {B : mM} {cl : Nat → Nat} {wt fr un way : Nat → Int} {may : Nat → Bool} {one : Nat → Nat → Bool} {tu room : Int} (hA : CA B p n cl wt fr un way may one) (hS : SN n wt fr un way) (h : SH B) (htu : gi B 20 0 = tu) (hro : gi B 20 3 = room) {d : Nat} :
    ∀ (r i c : Nat) (o : Option Nat) (N : mM) (Q : mV → mM → Prop), i + r = n → c < 2 ^ i → VC n fr un may one tu room c → YF scS B N → ST n wt fr un way N c → BS n wt fr un way N o → (∀ b, o = some b → VC n fr un may one tu room b ∧ ∀ t, VC n fr un may one tu room t → (∀ j, j < i → t.testBit j = c.testBit j) → lexB b t) →
      (∀ N' b', YF scS B N' → ST n wt fr un way N' c → BS n wt fr un way N' (some b') → VC n fr un may one tu room b' → (o = some b' ∨ ∀ j, j < i → b'.testBit j = c.testBit j) → (∀ b, o = some b → b = b' ∨ bet n way wt (spn fr un) b' b) → (∀ t, VC n fr un may one tu room t → (∀ j, j < i → t.testBit j = c.testBit j) → t = b' ∨ bet n way wt (spn fr un) b' t) → Q vj N') →
      CP (mc (d + r + 3)) 50 [vr (some 20), vr (some p), vi (i : Nat)] N Q := by
  have hA' := hA
  obtain ⟨hp, hn, h0, hj⟩ := hA'
  have pk : kd B p = 4 ∧ gr B p 5 = some (p + 1) ∧ kd B (p + 1) = 17 ∧ ln B (p + 1) = 14 := by
    rcases hp with rfl | rfl
    · exact ⟨hk31 h, hr31_5 h, hk32 h, hl32 h⟩
    · exact ⟨hk33 h, hr33_5 h, hk34 h, hl34 h⟩
  have k20 := hk20 h
  intro r
  induction r with
  | zero =>
    intro i c o N Q hi hc hv hN hs hb hpre hQ
    have ei : i = n := by omega
    subst ei
    have fa := fun (Q : mV → mM → Prop) => x_pat (d := d + 1) (N := N) (Q := Q) (k := (i : Nat)) (p := p) (n := i) (by rw [YF_k hN]; exact pk.1) (by rw [YF_r hN]; exact pk.2.1) (by rw [YF_k hN]; exact pk.2.2.1) (by rw [YF_l hN]; exact pk.2.2.2) (by rw [sc_c hN (by omega)]; exact h0) hn
    have nn : ¬ (0 ≤ (i : Int) ∧ (i : Int) < (i : Int)) := by omega
    simp only [if_neg nn] at fa
    have kN : kd N 20 = 5 := by rw [YF_k hN]; exact k20
    have kp : kd N p = 4 := by rw [YF_k hN]; exact pk.1
    have hs' := hs
    obtain ⟨s1, s2, s3, s4⟩ := hs'
    have bd := SN_b hS hn c
    have w1 : wr (sm way c i + 0) = sm way c i := by rw [Int.add_zero, wr_id (by omega) (by omega)]
    have w2 : wr (sm wt c i + 0) = sm wt c i := by rw [Int.add_zero, wr_id (by omega) (by omega)]
    have fc := fun (Q : mV → mM → Prop) => x_canBeat0 (d := d + 1) (N := N) (Q := Q) kN
    rw [s2, s3, s4, w1, w2] at fc
    have fk := fun (Q : mV → mM → Prop) => x_keep (d := d + 1) (N := N) (Q := Q) kN
    have keep : (∀ b, o = some b → bet i way wt (spn fr un) c b) → Q vj (kbM N) := fun hbb => by
      obtain ⟨g1, g2, g3, g4⟩ := gi_kbo (N := N)
      refine hQ (kbM N) c (YF_kb hN) ⟨by rw [gi_kb (by decide)]; exact s1, by rw [gi_kb (by decide)]; exact s2, by rw [gi_kb (by decide)]; exact s3, by rw [gi_kb (by decide)]; exact s4⟩ ⟨g1.trans s1, g2.trans s2, g3.trans s3, g4.trans s4⟩ hv (Or.inr (fun _ _ => rfl)) (fun b hb => Or.inr (hbb b hb)) (fun t ht he => Or.inl (ext_all hc ht.1 he))
    cases o with
    | none =>
      have hb' : gi N 20 10 = -1 := hb
      have bt : btr (sm way c i) (sm wt c i) (sm (spn fr un) c i) (gi N 20 10) (gi N 20 11) (gi N 20 12) := Or.inl (by omega)
      simp only [if_pos bt] at fc
      have q := keep (fun b hb => by cases hb)
      simp only [↓cpX5_search, ↓eX5_search_0, ↓eX5_search_1, ↓eX5_search_2, ↓eX5_search_5, ↓eX5_search_6, ↓eX5_search_7, ↓eX5_search_8, ↓eX5_search_11, ↓eX5_search_14, ↓eX5_search_15, ↓eX5_search_16, ↓eX5_search_19, ↓eX5_search_20, ↓eX5_search_23, kp, kN, ↓fa, ↓fc, ↓fk, reduceCtorEq, Int.cast_ofNat_Int, kd_si, gr_si, ln_si, gi_same, gi_na, gi_ni, nl_i, nl_r, nl_j, nj_i, nj_l, nj_r, true_and, and_true, and_self, cs_0, cs_1, cs_2, cs_3, cs_4, ↓reduceIte, Nat.reduceLeDiff, Nat.reduceEqDiff, Nat.reduceAdd, Int.reduceLE, Int.reduceLT, Int.reduceEq, Int.reduceAdd, Int.reduceNeg, Int.reduceToNat, Int.toNat_natCast, ne_eq, not_false_eq_true, not_true_eq_false, or_true, true_or, or_false, false_or]
      exact q
    | some b =>
      obtain ⟨b1, b2, b3, b4⟩ := hb
      rw [b2, b3, b4] at fc
      by_cases bt : btr (sm way c i) (sm wt c i) (sm (spn fr un) c i) (sm way b i) (sm wt b i) (sm (spn fr un) b i)
      · simp only [if_pos bt] at fc
        have q := keep (fun b' hb => by cases hb; exact btr_bet bt)
        simp only [↓cpX5_search, ↓eX5_search_0, ↓eX5_search_1, ↓eX5_search_2, ↓eX5_search_5, ↓eX5_search_6, ↓eX5_search_7, ↓eX5_search_8, ↓eX5_search_11, ↓eX5_search_14, ↓eX5_search_15, ↓eX5_search_16, ↓eX5_search_19, ↓eX5_search_20, ↓eX5_search_23, kp, kN, ↓fa, ↓fc, ↓fk, reduceCtorEq, Int.cast_ofNat_Int, kd_si, gr_si, ln_si, gi_same, gi_na, gi_ni, nl_i, nl_r, nl_j, nj_i, nj_l, nj_r, true_and, and_true, and_self, cs_0, cs_1, cs_2, cs_3, cs_4, ↓reduceIte, Nat.reduceLeDiff, Nat.reduceEqDiff, Nat.reduceAdd, Int.reduceLE, Int.reduceLT, Int.reduceEq, Int.reduceAdd, Int.reduceNeg, Int.reduceToNat, Int.toNat_natCast, ne_eq, not_false_eq_true, not_true_eq_false, or_true, true_or, or_false, false_or]
        exact q
      · simp only [if_neg bt] at fc
        have q := hQ N b hN hs ⟨b1, b2, b3, b4⟩ (hpre b rfl).1 (Or.inl rfl) (fun b' hb => by cases hb; exact Or.inl rfl) (fun t ht he => Or.inr (nb_bet hS hc (Nat.le_refl _) ht he ((hpre b rfl).2 t ht he) (by
          rw [Nat.sub_self, ahd, ahd, Int.add_zero, Int.add_zero]
          exact bt)))
        simp only [↓cpX5_search, ↓eX5_search_0, ↓eX5_search_1, ↓eX5_search_2, ↓eX5_search_5, ↓eX5_search_6, ↓eX5_search_7, ↓eX5_search_8, ↓eX5_search_11, ↓eX5_search_14, ↓eX5_search_15, ↓eX5_search_16, ↓eX5_search_19, ↓eX5_search_20, ↓eX5_search_23, kp, kN, ↓fa, ↓fc, reduceCtorEq, Int.cast_ofNat_Int, kd_si, gr_si, ln_si, gi_same, gi_na, gi_ni, nl_i, nl_r, nl_j, nj_i, nj_l, nj_r, true_and, and_true, and_self, cs_0, cs_1, cs_2, cs_3, cs_4, ↓reduceIte, Nat.reduceLeDiff, Nat.reduceEqDiff, Nat.reduceAdd, Int.reduceLE, Int.reduceLT, Int.reduceEq, Int.reduceAdd, Int.reduceNeg, Int.reduceToNat, Int.toNat_natCast, ne_eq, not_false_eq_true, not_true_eq_false, or_true, true_or, or_false, false_or]
        exact q
  | succ r ih =>
    intro i c o N Q hi hc hv hN hs hb hpre hQ
    have hin : i < n := by omega
    obtain ⟨⟨j1, j2, j3⟩, ⟨j4, j5, j6, j7, j8⟩, ⟨eo, o1, o2⟩, ⟨eb, e1, e2⟩, j9, j10⟩ := hj i hin
    have kN : kd N 20 = 5 := by rw [YF_k hN]; exact k20
    have kp : kd N p = 4 := by rw [YF_k hN]; exact pk.1
    have ne : cl i ≠ 20 := by omega
    have gx : ∀ m, gi N (cl i) m = gi B (cl i) m := fun m => sc_c hN ne
    have kx : kd N (cl i) = 0 := by rw [YF_k hN]; exact j2
    have fa := fun (Q : mV → mM → Prop) => x_pat (d := d + r + 2) (N := N) (Q := Q) (k := (i : Nat)) (p := p) (n := n) kp (by rw [YF_r hN]; exact pk.2.1) (by rw [YF_k hN]; exact pk.2.2.1) (by rw [YF_l hN]; exact pk.2.2.2) (by rw [sc_c hN (by omega)]; exact h0) hn
    have nn : 0 ≤ (i : Int) ∧ (i : Int) < (n : Int) := by omega
    simp only [if_pos nn, Int.toNat_natCast, YF_r hN, j1] at fa
    have hs' := hs
    obtain ⟨s1, s2, s3, s4⟩ := hs'
    have bd := SN_b hS hn c
    have ba := SN_a (may := may) hS hn hin
    have w1 : wr (sm way c n + ahd way (n - i) i) = sm way c n + ahd way (n - i) i := wr_id (by omega) (by omega)
    have w2 : wr (sm wt c n + ahd (may0 may wt) (n - i) i) = sm wt c n + ahd (may0 may wt) (n - i) i := wr_id (by omega) (by omega)
    have fc := fun (Q : mV → mM → Prop) => x_canBeat1 (d := d + r + 2) (N := N) (Q := Q) (x := cl i) kN kx
    rw [gx, gx, j9, j10, s2, s3, s4, w1, w2] at fc
    have pe : d + (r + 1) + 3 = d + r + 3 + 1 := by omega
    rw [pe]
    -- what the second call gives
    have wi : wr ((i : Int) + 1) = ((i + 1 : Nat) : Int) := by rw [wr_id (by omega) (by omega)]; omega
    have hc1 : c < 2 ^ (i + 1) := Nat.lt_of_lt_of_le hc (Nat.pow_le_pow_right (by decide) (by omega))
    have ci : c.testBit i = false := Nat.testBit_lt_two_pow hc
    by_cases bt : btr (sm way c n + ahd way (n - i) i) (sm wt c n + ahd (may0 may wt) (n - i) i) (sm (spn fr un) c n) (gi N 20 10) (gi N 20 11) (gi N 20 12)
    · simp only [if_pos bt] at fc
      have bsp := (hS i hin).2.1
      have wv : wr (gi N (cl i) 8 - gi N (cl i) 7) = spn fr un i := by
        rw [gx, gx, j5, j6]
        unfold spn
        rw [wr_id (by omega) (by omega)]
      have ww : wr (gi N 20 8 + spn fr un i) = sm (spn fr un) c n + spn fr un i := by
        rw [s4, wr_id (by unfold spn at *; omega) (by unfold spn at *; omega)]
      have fd := fun (Q : mV → mM → Prop) => x_canAdd (d := d + r + 1) (N := N) (Q := Q) (x := cl i) (c := c) (eo := eo) (eb := eb) (m := may i) kN kx s1 (lt16 (n := i) (by omega) hc) (by rw [gx]; exact j8) (by rw [gx]; exact o1) (by rw [gx]; exact e1) _ wv _ ww
      obtain ⟨q1, q2⟩ := add_iff (fr := fr) (un := un) (one := one) hc hin hn o2 e2
      rw [q2, sc_s hN (by decide), sc_s hN (by decide), htu, hro] at fd
      have second : ∀ (N3 : mM) (o3 : Option Nat), YF scS B N3 → ST n wt fr un way N3 c → BS n wt fr un way N3 o3 → (∀ b, o3 = some b → VC n fr un may one tu room b ∧ ∀ t, VC n fr un may one tu room t → (∀ j, j < i + 1 → t.testBit j = c.testBit j) → lexB b t) → (∀ N' b', YF scS B N' → ST n wt fr un way N' c → BS n wt fr un way N' (some b') → VC n fr un may one tu room b' → (o3 = some b' ∨ ∀ j, j < i + 1 → b'.testBit j = c.testBit j) → (∀ b, o3 = some b → b = b' ∨ bet n way wt (spn fr un) b' b) → (∀ t, VC n fr un may one tu room t → (∀ j, j < i + 1 → t.testBit j = c.testBit j) → t = b' ∨ bet n way wt (spn fr un) b' t) → Q vj N') → WP (mc (d + r + 3)) tX5_search 54 [vr (some 20), vr (some p), vi (i : Nat), vr (some (cl i))] [] N3 Q := fun N3 o3 hN3 hs3 hb3 hp3 hQ3 => by
        have kN3 : kd N3 20 = 5 := by rw [YF_k hN3]; exact k20
        have g := ih (i + 1) c o3 N3 (fun v M => v = vj ∧ WP (mc (d + r + 3)) tX5_search 62 [vr (some 20), vr (some p), vi (i : Nat), vr (some (cl i))] [] M Q) (by omega) hc1 hv hN3 hs3 hb3 hp3 (fun N' b' h1 h2 h3 h4 h5 h6 h7 => ⟨rfl, by
          simp only [↓eX5_search_62]
          exact hQ3 N' b' h1 h2 h3 h4 h5 h6 h7⟩)
        simp only [↓eX5_search_54, ↓eX5_search_55, ↓eX5_search_56, ↓eX5_search_57, ↓eX5_search_58, ↓eX5_search_59, kN3, wi, Int.cast_ofNat_Int, kd_si, gr_si, ln_si, gi_same, gi_na, gi_ni, nl_i, nl_r, nl_j, nj_i, nj_l, nj_r, true_and, and_true, and_self, cs_0, cs_1, cs_2, cs_3, cs_4, ↓reduceIte, Nat.reduceLeDiff, Nat.reduceEqDiff, Nat.reduceAdd, Int.reduceLE, Int.reduceLT, Int.reduceEq, Int.reduceAdd, Int.reduceNeg, Int.reduceToNat, Int.toNat_natCast, ne_eq, not_false_eq_true, not_true_eq_false, or_true, true_or, or_false, false_or]
        exact g
      by_cases add : may i = true ∧ c &&& eb = 0 ∧ sm (onN fr un i) c i < tu ∧ sm (spn fr un) c n + spn fr un i ≤ room
      · simp only [if_pos add] at fd
        obtain ⟨a1, a2, a3, a4⟩ := add
        have hv1 := VC_add hc hin hv a1 (q1.mp a2) a3 a4
        have f1 := fun (Q : mV → mM → Prop) => x_add1 (d := d + r + 1) (N := N) (Q := Q) hA hS h hin hc hN hs
        have first := ih (i + 1) (c ^^^ 2 ^ i) o (adM N ((c ^^^ 2 ^ i : Nat) : Int) (sm way (c ^^^ 2 ^ i) n) (sm wt (c ^^^ 2 ^ i) n) (sm (spn fr un) (c ^^^ 2 ^ i) n)) (fun v M => v = vj ∧ WP (mc (d + r + 3)) tX5_search 47 [vr (some 20), vr (some p), vi (i : Nat), vr (some (cl i))] [] M Q) (by omega) (add_lt hc) hv1 (YF_ad hN) ST_ad (BS_ad hb) (fun b hob => ⟨(hpre b hob).1, fun t ht he => (hpre b hob).2 t ht (fun j hj => by rw [he j (by omega), tb_add hc, if_neg (by omega)])⟩) (fun N2 b1 hN2 hs2 hb2 hv2 hor hbb hall => ⟨rfl, by
          have kN2 : kd N2 20 = 5 := by rw [YF_k hN2]; exact k20
          have f2 := fun (Q : mV → mM → Prop) => x_drop1 (d := d + r + 1) (N := N2) (Q := Q) hA hS h hin hc hN2 hs2
          have sec := second (adM N2 (c : Int) (sm way c n) (sm wt c n) (sm (spn fr un) c n)) (some b1) (YF_ad hN2) ST_ad (BS_ad hb2) (fun b hob => by
            cases hob
            refine ⟨hv2, fun t ht he => ?_⟩
            rcases hor with w | w
            · exact (hpre b1 w).2 t ht (fun j hj => he j (by omega))
            · refine ⟨i, ?_, ?_, fun j hj => ?_⟩
              · rw [w i (by omega), tb_add hc, if_pos rfl]
              · rw [he i (by omega)]; exact ci
              · rw [w j (by omega), tb_add hc, if_neg (by omega), he j (by omega)]) (fun N' b' h1 h2 h3 h4 h5 h6 h7 => by
            have h6' := h6 b1 rfl
            have up : ∀ t, (t = b1 ∨ bet n way wt (spn fr un) b1 t) → (t = b' ∨ bet n way wt (spn fr un) b' t) := fun t ht => by
              rcases ht with rfl | ht
              · exact h6'
              · rcases h6' with w | w
                · rw [← w]; exact Or.inr ht
                · exact Or.inr (bet_trans w ht)
            refine hQ N' b' h1 h2 h3 h4 ?_ (fun b hob => up b (hbb b hob)) (fun t ht he => ?_)
            · rcases h5 with w | w
              · cases w
                rcases hor with v | v
                · exact Or.inl v
                · exact Or.inr (fun j hj => by rw [v j (by omega), tb_add hc, if_neg (by omega)])
              · exact Or.inr (fun j hj => w j (by omega))
            · cases hti : t.testBit i with
              | true => exact up t (hall t ht (fun j hj => by
                  rw [tb_add hc]
                  by_cases q : j = i
                  · rw [if_pos q, q]; exact hti
                  · rw [if_neg q]; exact he j (by omega)))
              | false => exact h7 t ht (fun j hj => by
                  by_cases q : j = i
                  · rw [q, hti, ci]
                  · exact he j (by omega)))
          simp only [↓eX5_search_47, ↓eX5_search_48, ↓eX5_search_49, ↓eX5_search_50, ↓eX5_search_51, kN2, ↓f2, Int.cast_ofNat_Int, kd_si, gr_si, ln_si, gi_same, gi_na, gi_ni, nl_i, nl_r, nl_j, nj_i, nj_l, nj_r, true_and, and_true, and_self, cs_0, cs_1, cs_2, cs_3, cs_4, ↓reduceIte, Nat.reduceLeDiff, Nat.reduceEqDiff, Nat.reduceAdd, Int.reduceLE, Int.reduceLT, Int.reduceEq, Int.reduceAdd, Int.reduceNeg, Int.reduceToNat, Int.toNat_natCast, ne_eq, not_false_eq_true, not_true_eq_false, or_true, true_or, or_false, false_or]
          exact sec⟩)
        rw [cpX5_search]
        simp only [↓eX5_search_0, ↓eX5_search_1, ↓eX5_search_2, ↓eX5_search_5, ↓eX5_search_6, ↓eX5_search_7, ↓eX5_search_8, ↓eX5_search_11, ↓eX5_search_14, ↓eX5_search_15, ↓eX5_search_16, ↓eX5_search_19, ↓eX5_search_20, ↓eX5_search_23, ↓eX5_search_24, ↓eX5_search_25, ↓eX5_search_26, ↓eX5_search_29, ↓eX5_search_32, ↓eX5_search_33, ↓eX5_search_34, ↓eX5_search_35, ↓eX5_search_36, ↓eX5_search_39, ↓eX5_search_40, ↓eX5_search_41, ↓eX5_search_42, ↓eX5_search_43, ↓eX5_search_44, kp, kN, ↓fa, ↓fc, ↓fd, ↓f1, adM, kd_si, wi, reduceCtorEq, Int.cast_ofNat_Int, kd_si, gr_si, ln_si, gi_same, gi_na, gi_ni, nl_i, nl_r, nl_j, nj_i, nj_l, nj_r, true_and, and_true, and_self, cs_0, cs_1, cs_2, cs_3, cs_4, ↓reduceIte, Nat.reduceLeDiff, Nat.reduceEqDiff, Nat.reduceAdd, Int.reduceLE, Int.reduceLT, Int.reduceEq, Int.reduceAdd, Int.reduceNeg, Int.reduceToNat, Int.toNat_natCast, ne_eq, not_false_eq_true, not_true_eq_false, or_true, true_or, or_false, false_or]
        exact first
      · simp only [if_neg add] at fd
        have sec := second N o hN hs hb (fun b hob => ⟨(hpre b hob).1, fun t ht he => (hpre b hob).2 t ht (fun j hj => he j (by omega))⟩) (fun N' b' h1 h2 h3 h4 h5 h6 h7 => by
          refine hQ N' b' h1 h2 h3 h4 ?_ h6 (fun t ht he => ?_)
          · rcases h5 with w | w
            · exact Or.inl w
            · exact Or.inr (fun j hj => w j (by omega))
          · cases hti : t.testBit i with
            | true =>
              obtain ⟨x1, x2, x3, x4⟩ := VC_has hS hc hin ht he hti
              exact absurd ⟨x1, q1.mpr x2, x3, x4⟩ add
            | false => exact h7 t ht (fun j hj => by
                by_cases q : j = i
                · rw [q, hti, ci]
                · exact he j (by omega)))
        simp only [↓cpX5_search, ↓eX5_search_0, ↓eX5_search_1, ↓eX5_search_2, ↓eX5_search_5, ↓eX5_search_6, ↓eX5_search_7, ↓eX5_search_8, ↓eX5_search_11, ↓eX5_search_14, ↓eX5_search_15, ↓eX5_search_16, ↓eX5_search_19, ↓eX5_search_20, ↓eX5_search_23, ↓eX5_search_24, ↓eX5_search_25, ↓eX5_search_26, ↓eX5_search_29, kp, kN, ↓fa, ↓fc, ↓fd, reduceCtorEq, Int.cast_ofNat_Int, kd_si, gr_si, ln_si, gi_same, gi_na, gi_ni, nl_i, nl_r, nl_j, nj_i, nj_l, nj_r, true_and, and_true, and_self, cs_0, cs_1, cs_2, cs_3, cs_4, ↓reduceIte, Nat.reduceLeDiff, Nat.reduceEqDiff, Nat.reduceAdd, Int.reduceLE, Int.reduceLT, Int.reduceEq, Int.reduceAdd, Int.reduceNeg, Int.reduceToNat, Int.toNat_natCast, ne_eq, not_false_eq_true, not_true_eq_false, or_true, true_or, or_false, false_or]
        exact sec
    · simp only [if_neg bt] at fc
      cases o with
      | none =>
        have hb' : gi N 20 10 = -1 := hb
        exact absurd (Or.inl (by omega)) bt
      | some b =>
        have hb' := hb
        obtain ⟨b1, b2, b3, b4⟩ := hb'
        rw [b2, b3, b4] at bt
        have q := hQ N b hN hs hb (hpre b rfl).1 (Or.inl rfl) (fun b' hb => by cases hb; exact Or.inl rfl) (fun t ht he => Or.inr (nb_bet hS hc (by omega) ht he ((hpre b rfl).2 t ht he) bt))
        simp only [↓cpX5_search, ↓eX5_search_0, ↓eX5_search_1, ↓eX5_search_2, ↓eX5_search_5, ↓eX5_search_6, ↓eX5_search_7, ↓eX5_search_8, ↓eX5_search_11, ↓eX5_search_14, kp, kN, ↓fa, ↓fc, Int.cast_ofNat_Int, kd_si, gr_si, ln_si, gi_same, gi_na, gi_ni, nl_i, nl_r, nl_j, nj_i, nj_l, nj_r, true_and, and_true, and_self, cs_0, cs_1, cs_2, cs_3, cs_4, ↓reduceIte, Nat.reduceLeDiff, Nat.reduceEqDiff, Nat.reduceAdd, Int.reduceLE, Int.reduceLT, Int.reduceEq, Int.reduceAdd, Int.reduceNeg, Int.reduceToNat, Int.toNat_natCast, ne_eq, not_false_eq_true, not_true_eq_false, or_true, true_or, or_false, false_or]
        exact q
