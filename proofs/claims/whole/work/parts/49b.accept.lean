/-! ===== operators ===== -/
theorem pg5_W {w : List Int} {dp bs : Nat} {cm : Bool} {ck : Int} (hw : okw w dp) (hc : cm = true → 13 ≤ ck ∧ ck ≤ 16) (hb : bs ≤ 3) : pgW 5 (w ++ (cmW cm ck ++ bW bs)) = popW w ++ (cmW cm ck ++ bW bs) := by
  rw [pg_W (by decide) (by decide) w (okw_el w dp hw)]
  by_cases q : popW w = []
  · rw [if_pos q, q, (rest_W (by decide) hc hb).1]; rfl
  · rw [if_neg q]
theorem pg5_V {w v rv : List Int} {dp bs : Nat} {cm : Bool} {ck : Int} (hw : okw w dp) (hc : cm = true → 13 ≤ ck ∧ ck ≤ 16) (hb : bs ≤ 3) (hv : v.length = nops w + 1) : pgV 5 (w ++ (cmW cm ck ++ bW bs)) (v ++ rv) = popV w v ++ rv := by
  rw [pg_V (by decide) (by decide) w v (okw_el w dp hw) hv]
  by_cases q : popW w = []
  · rw [if_pos q, (rest_W (by decide) hc hb).2]
  · rw [if_neg q]
/-- the rest behind an and -/
theorem rest_A {cm : Bool} {ck x a o : Int} {bs : Nat} {L : Env → Int} {e : Env} (hc : cm = true → 13 ≤ ck ∧ ck ≤ 16) (hb : bs ≤ 3) : pgW 3 (cmW cm ck ++ bW bs) = (if bs = 1 ∨ bs = 3 then [11] else []) ∧ pgV 3 (cmW cm ck ++ bW bs) ([x] ++ (cmV cm L e ++ bV bs a o)) = (if bs = 2 ∨ bs = 3 then and2 a (if cm = true then jn ck (L e) x else x) else (if cm = true then jn ck (L e) x else x)) :: (if bs = 1 ∨ bs = 3 then [o] else []) := by
  cases cm with
  | true =>
    have tc : 3 ≤ tg ck := by rw [tg_c (hc rfl).1 (hc rfl).2]; decide
    have s1 : pgW 3 (cmW true ck ++ bW bs) = pgW 3 (bW bs) := by
      show pgW 3 (ck :: bW bs) = _
      rw [pgW, if_pos tc]
    have s2 : pgV 3 (cmW true ck ++ bW bs) ([x] ++ (cmV true L e ++ bV bs a o)) = pgV 3 (bW bs) (jn ck (L e) x :: bV bs a o) := by
      show pgV 3 (ck :: bW bs) (x :: L e :: bV bs a o) = _
      rw [pgV, if_pos tc]
      rfl
    rw [s1, s2]
    rcases (show bs = 0 ∨ bs = 1 ∨ bs = 2 ∨ bs = 3 by omega) with rfl | rfl | rfl | rfl <;> exact ⟨rfl, rfl⟩
  | false =>
    rcases (show bs = 0 ∨ bs = 1 ∨ bs = 2 ∨ bs = 3 by omega) with rfl | rfl | rfl | rfl <;> exact ⟨rfl, rfl⟩
/-- the rest behind an or, or a stop -/
theorem rest_O0 {t : Int} (ht : t = 1 ∨ t = 2) {a o y : Int} {bs : Nat} (hb : bs ≤ 3) : pgW t (bW bs) = [] ∧ pgV t (bW bs) (y :: bV bs a o) = [if bs = 1 ∨ bs = 3 then or2 o (if bs = 2 ∨ bs = 3 then and2 a y else y) else (if bs = 2 ∨ bs = 3 then and2 a y else y)] := by
  have t11 : t ≤ tg 11 := by
    have : tg 11 = 2 := rfl
    omega
  have t12 : t ≤ tg 12 := by
    have : tg 12 = 3 := rfl
    omega
  rcases (show bs = 0 ∨ bs = 1 ∨ bs = 2 ∨ bs = 3 by omega) with rfl | rfl | rfl | rfl
  · exact ⟨rfl, rfl⟩
  · refine ⟨?_, ?_⟩
    · show pgW t [11] = []
      rw [pgW, if_pos t11]; rfl
    · show pgV t [11] [y, o] = [or2 o y]
      rw [pgV, if_pos t11]; rfl
  · refine ⟨?_, ?_⟩
    · show pgW t [12] = []
      rw [pgW, if_pos t12]; rfl
    · show pgV t [12] [y, a] = [and2 a y]
      rw [pgV, if_pos t12]; rfl
  · refine ⟨?_, ?_⟩
    · show pgW t [12, 11] = []
      rw [pgW, if_pos t12, pgW, if_pos t11]; rfl
    · show pgV t [12, 11] [y, a, o] = [or2 o (and2 a y)]
      rw [pgV, if_pos t12, pgV, if_pos t11]; rfl
theorem rest_O {t : Int} (ht : t = 1 ∨ t = 2) {cm : Bool} {ck x a o : Int} {bs : Nat} {L : Env → Int} {e : Env} (hc : cm = true → 13 ≤ ck ∧ ck ≤ 16) (hb : bs ≤ 3) : pgW t (cmW cm ck ++ bW bs) = [] ∧ pgV t (cmW cm ck ++ bW bs) ([x] ++ (cmV cm L e ++ bV bs a o)) = [if bs = 1 ∨ bs = 3 then or2 o (if bs = 2 ∨ bs = 3 then and2 a (if cm = true then jn ck (L e) x else x) else (if cm = true then jn ck (L e) x else x)) else (if bs = 2 ∨ bs = 3 then and2 a (if cm = true then jn ck (L e) x else x) else (if cm = true then jn ck (L e) x else x))] := by
  cases cm with
  | true =>
    have tc : t ≤ tg ck := by rw [tg_c (hc rfl).1 (hc rfl).2]; omega
    have s1 : pgW t (cmW true ck ++ bW bs) = pgW t (bW bs) := by
      show pgW t (ck :: bW bs) = _
      rw [pgW, if_pos tc]
    have s2 : pgV t (cmW true ck ++ bW bs) ([x] ++ (cmV true L e ++ bV bs a o)) = pgV t (bW bs) (jn ck (L e) x :: bV bs a o) := by
      show pgV t (ck :: bW bs) (x :: L e :: bV bs a o) = _
      rw [pgV, if_pos tc]
      rfl
    rw [s1, s2]
    exact rest_O0 ht hb
  | false => exact rest_O0 ht hb
section TAKEB
variable {d : Nat} {M : mM} {Q : mV → mM → Prop} {u st dp nt R bs : Nat} {cm : Bool} {am wp ck k v : Int} {me : Nat → Env → Int} {mt : Nat → Int} {A O L : Env → Int} {w : List Int} {V : Env → List Int} {b : Nat}
theorem push_CR {P N : mM} {c : Nat} {cmI st' : Int} {W' : List Int} {V' : Env → List Int} (hu : u = 21 ∨ u = 26) (hRU : RU u M R me mt) (hN : N = si (si (si (si P 19 c k) 18 8 (c + 1 : Nat)) 18 6 cmI) 18 3 st') (yP : YF (wdS u (rst u M R)) M P) (cP : CS u P (rst u M R) nt W' V') (hc : W'.length = c) : YF (rdS u) M N ∧ RU u N R me mt ∧ CS u N (rst u N R) (nt + 1) (k :: W') V' ∧ (∀ i, i ≠ 3 → i ≠ 6 → i ≠ 8 → gi N 18 i = gi M 18 i) ∧ gi N 18 3 = st' ∧ gi N 18 6 = cmI ∧ gi N u 0 = gi M u 0 := by
  have oth : ∀ a i, a ≠ 18 → a ≠ 19 → gi N a i = gi P a i := fun a i ha hb => by rw [hN, gi_na ha, gi_na ha, gi_na ha, gi_na hb]
  have o2 : ∀ i, gi N (u + 2) i = gi M (u + 2) i := fun i => by rw [oth _ i (by omega) (by omega), yP.2 _ i (by unfold wdS; omega)]
  have o3 : ∀ i, gi N (u + 3) i = gi M (u + 3) i := fun i => by rw [oth _ i (by omega) (by omega), yP.2 _ i (by unfold wdS; omega)]
  refine ⟨?_, RU_f o2 o3 (fun i hi => by rw [oth _ i (by omega) (by omega), yP.2 _ i (by unfold wdS; omega)]) hRU, ?_, fun i h3 h6 h8 => ?_, ?_, ?_, ?_⟩
  · rw [hN]
    exact YF_si (Or.inl rfl) (YF_si (Or.inl rfl) (YF_si (Or.inl rfl) (YF_si (Or.inr (Or.inl rfl)) (rdwd yP))))
  · rw [rst_f o2]
    obtain ⟨a1, a2, cl, a3, a4, a5, a6, a7⟩ := cP
    refine ⟨?_, ⟨?_, ?_⟩, cl, by rw [oth u 1 (by omega) (by omega)]; exact a3, a4, ?_, gd_eq (fun j _ => oth _ _ (by omega) (by omega)) a6, fun e => by rw [rn_eq _ (fun j _ => oth _ _ (by omega) (by omega)) e]; exact a7 e⟩
    · rw [List.length_cons, hc, hN]; simp only [Int.cast_ofNat_Int, kd_si, gr_si, ln_si, gi_same, gi_na, gi_ni, nl_i, nl_r, nl_j, nj_i, nj_l, nj_r, true_and, and_true, and_self, cs_0, cs_1, cs_2, cs_3, cs_4, ↓reduceIte, Nat.reduceLeDiff, Nat.reduceEqDiff, Nat.reduceAdd, Int.reduceLE, Int.reduceLT, Int.reduceEq, Int.reduceAdd, Int.reduceNeg, Int.reduceToNat, Int.toNat_natCast, ne_eq, not_false_eq_true, not_true_eq_false, or_true, true_or, or_false, false_or]
    · rw [hc, hN]; simp only [Int.cast_ofNat_Int, kd_si, gr_si, ln_si, gi_same, gi_na, gi_ni, nl_i, nl_r, nl_j, nj_i, nj_l, nj_r, true_and, and_true, and_self, cs_0, cs_1, cs_2, cs_3, cs_4, ↓reduceIte, Nat.reduceLeDiff, Nat.reduceEqDiff, Nat.reduceAdd, Int.reduceLE, Int.reduceLT, Int.reduceEq, Int.reduceAdd, Int.reduceNeg, Int.reduceToNat, Int.toNat_natCast, ne_eq, not_false_eq_true, not_true_eq_false, or_true, true_or, or_false, false_or]
    · refine stk_eq _ (fun j hj => ?_) a2
      rw [hc] at hj
      rw [hN]
      simp only [Int.cast_ofNat_Int, kd_si, gr_si, ln_si, gi_same, gi_na, gi_ni, nl_i, nl_r, nl_j, nj_i, nj_l, nj_r, true_and, and_true, and_self, cs_0, cs_1, cs_2, cs_3, cs_4, ↓reduceIte, Nat.reduceLeDiff, Nat.reduceEqDiff, Nat.reduceAdd, Int.reduceLE, Int.reduceLT, Int.reduceEq, Int.reduceAdd, Int.reduceNeg, Int.reduceToNat, Int.toNat_natCast, ne_eq, not_false_eq_true, not_true_eq_false, or_true, true_or, or_false, false_or, show ¬ j = c by omega]
    · rw [List.length_cons]; omega
  · rw [hN, gi_ni h3, gi_ni h6, gi_ni h8, gi_na (by decide), yP.2 18 i (by unfold wdS; omega)]
  · rw [hN, gi_same]
  · rw [hN]; simp only [Int.cast_ofNat_Int, kd_si, gr_si, ln_si, gi_same, gi_na, gi_ni, nl_i, nl_r, nl_j, nj_i, nj_l, nj_r, true_and, and_true, and_self, cs_0, cs_1, cs_2, cs_3, cs_4, ↓reduceIte, Nat.reduceLeDiff, Nat.reduceEqDiff, Nat.reduceAdd, Int.reduceLE, Int.reduceLT, Int.reduceEq, Int.reduceAdd, Int.reduceNeg, Int.reduceToNat, Int.toNat_natCast, ne_eq, not_false_eq_true, not_true_eq_false, or_true, true_or, or_false, false_or]
  · rw [oth u 0 (by omega) (by omega), yP.2 u 0 (by unfold wdS; omega)]
theorem x_takeB (h : SH M) (hu : u = 21 ∨ u = 26) (f0 : gi M 18 0 = 0) (f1 : gi M 18 1 = -1) (f2 : gi M 18 2 = wp) (f3 : gi M 18 3 = st) (f4 : gi M 18 4 = (nt + 1 : Nat)) (f5 : gi M 18 5 = dp) (f6 : gi M 18 6 = if cm = true then 1 else 0) (f7 : st ≠ 0 → gi M 18 7 = am) (fu : gi M u 0 = R) (hRU : RU u M R me mt)
    (hCS : CS u M (rst u M R) nt (w ++ (cmW cm ck ++ bW bs)) (fun e => V e ++ (cmV cm L e ++ bV bs (A e) (O e)))) (hp : PI (st, dp, cm, am, wp, nt, R, me, mt, bs, A, O, ck, L, w, V)) (g : goes st dp cm k) (m : ¬ much st dp nt R k) (s56 : st = 5 ∨ st = 6)
    (hk : gi M 16 1 = k)
    (hQ : ∀ N, YF (rdS u) M N → CR u N (nxt (st, dp, cm, am, wp, nt, R, me, mt, bs, A, O, ck, L, w, V) k v b) → Q vj N) : CP (mc (d + 4)) 86 [vr (some 18), vr (some 16), vr (some u)] M Q := by
  obtain ⟨h1, h2, h3, h4, h5, h6, h7, h8, h9, h10, h11⟩ := hp
  have n4 : nt < 400 := by unfold much at m; omega
  have z0 : ¬ st = 0 := by omega
  have z1 : ¬ st = 1 := by omega
  have z2 : ¬ st = 2 := by omega
  have z3 : ¬ (st = 3 ∨ st = 4) := by omega
  have f7' := f7 z0
  have hR := h11 z0
  have hel := full_el (bs := bs) h6 h8
  have hrl := fun e => rest_nops (L := L) (a := A e) (o := O e) h8 h5 e
  have hlw := (okw_len w dp h6).1
  have r3 := (hrl (fun _ => 0)).2.1
  have hW23 : (w ++ (cmW cm ck ++ bW bs)).length ≤ 23 := by rw [List.length_append]; omega
  have l7 : ∀ e, (V e).length = nops w + 1 := fun e => by rw [h7 e, if_pos s56]
  have hVl : ∀ e, (V e ++ (cmV cm L e ++ bV bs (A e) (O e))).length = nops (w ++ (cmW cm ck ++ bW bs)) + 1 := fun e => by
    rw [List.length_append, nops_app, l7 e, (hrl e).1]; omega
  have to : CP (mc (d + 3)) 89 [vr (some 18), vi k, vr (some u)] M (fun v M => v = vj ∧ Q vj M) → CP (mc (d + 4)) 86 [vr (some 18), vr (some 16), vr (some u)] M Q := fun T => by
    rcases s56 with z | z
    · subst z
      simp only [↓cpX9_take, ↓eX9_take_0, ↓eX9_take_1, ↓eX9_take_4, ↓eX9_take_40, ↓eX9_take_41, ↓eX9_take_42, ↓eX9_take_45, ↓eX9_take_46, ↓eX9_take_47, ↓eX9_take_50, ↓eX9_take_52, ↓eX9_take_55, ↓eX9_take_56, ↓eX9_take_59, ↓eX9_take_60, ↓eX9_take_63, ↓eX9_take_66, ↓eX9_take_67, ↓eX9_take_68, ↓eX9_take_71, ↓eX9_take_74, ↓eX9_take_75, ↓eX9_take_76, ↓eX9_take_79, ↓eX9_take_82, ↓eX9_take_83, ↓eX9_take_84, ↓eX9_take_85, ↓eX9_take_88, ↓eX9_take_91, ↓eX9_take_92, ↓eX9_take_93, ↓eX9_take_96, ↓eX9_take_97, ↓eX9_take_100, hk18 h, hk16 h, f3, hk, Int.cast_ofNat_Int, kd_si, gr_si, ln_si, gi_same, gi_na, gi_ni, nl_i, nl_r, nl_j, nj_i, nj_l, nj_r, true_and, and_true, and_self, cs_0, cs_1, cs_2, cs_3, cs_4, ↓reduceIte, Nat.reduceLeDiff, Nat.reduceEqDiff, Nat.reduceAdd, Int.reduceLE, Int.reduceLT, Int.reduceEq, Int.reduceAdd, Int.reduceNeg, Int.reduceToNat, Int.toNat_natCast, ne_eq, not_false_eq_true, not_true_eq_false, or_true, true_or, or_false, false_or]
      exact T
    · subst z
      simp only [↓cpX9_take, ↓eX9_take_0, ↓eX9_take_1, ↓eX9_take_4, ↓eX9_take_40, ↓eX9_take_41, ↓eX9_take_42, ↓eX9_take_45, ↓eX9_take_46, ↓eX9_take_47, ↓eX9_take_50, ↓eX9_take_52, ↓eX9_take_55, ↓eX9_take_56, ↓eX9_take_59, ↓eX9_take_60, ↓eX9_take_63, ↓eX9_take_66, ↓eX9_take_67, ↓eX9_take_68, ↓eX9_take_71, ↓eX9_take_74, ↓eX9_take_75, ↓eX9_take_76, ↓eX9_take_79, ↓eX9_take_82, ↓eX9_take_83, ↓eX9_take_84, ↓eX9_take_85, ↓eX9_take_88, ↓eX9_take_91, ↓eX9_take_92, ↓eX9_take_93, ↓eX9_take_96, ↓eX9_take_97, ↓eX9_take_100, hk18 h, hk16 h, f3, hk, Int.cast_ofNat_Int, kd_si, gr_si, ln_si, gi_same, gi_na, gi_ni, nl_i, nl_r, nl_j, nj_i, nj_l, nj_r, true_and, and_true, and_self, cs_0, cs_1, cs_2, cs_3, cs_4, ↓reduceIte, Nat.reduceLeDiff, Nat.reduceEqDiff, Nat.reduceAdd, Int.reduceLE, Int.reduceLT, Int.reduceEq, Int.reduceAdd, Int.reduceNeg, Int.reduceToNat, Int.toNat_natCast, ne_eq, not_false_eq_true, not_true_eq_false, or_true, true_or, or_false, false_or]
      exact T
  refine to ?_
  have kr : (11 ≤ k ∧ k ≤ 19) ∨ k = 21 ∨ k = 22 := by unfold goes bo fl3 fo at g; omega
  by_cases q1 : k = 17 ∨ k = 18
  · have e : nxt (st, dp, cm, am, wp, nt, R, me, mt, bs, A, O, ck, L, w, V) k v b = (4, dp, cm, am, wp, nt + 1, R, me, mt, bs, A, O, ck, L, k :: popW w, fun e => popV w (V e)) := by
      unfold nxt
      simp only
      rw [if_neg z0, if_neg z1, if_neg z2, if_neg z3, if_pos q1]
    rw [e] at hQ
    have tk : tg k = 5 := by rcases q1 with rfl | rfl <;> rfl
    have pw := pg5_W (ck := ck) h6 h8 h5
    obtain ⟨o1, o2⟩ := okw_pop w dp h6
    have ol := (okw_len _ dp o1).2.2 o2
    refine x_op_push (c := (popW w ++ (cmW cm ck ++ bW bs)).length) h hu (by omega) hCS hel hVl hW23 (by omega) (by rw [tk, pw]) (by rw [List.length_append]; omega) f6 (fun P yP cP => ⟨rfl, ?_⟩)
    rw [tk, pw] at cP
    have ee : (fun e => pgV 5 (w ++ (cmW cm ck ++ bW bs)) (V e ++ (cmV cm L e ++ bV bs (A e) (O e)))) = fun e => popV w (V e) ++ (cmV cm L e ++ bV bs (A e) (O e)) := by
      funext e
      exact pg5_V h6 h8 h5 (l7 e)
    rw [ee] at cP
    obtain ⟨p1, p2, p3, p4, p5, p6, p7⟩ := push_CR (N := _) (k := k) hu hRU rfl yP cP rfl
    refine hQ _ p1 ⟨⟨by rw [p4 0 (by decide) (by decide) (by decide)]; exact f0, by rw [p4 1 (by decide) (by decide) (by decide)]; exact f1, by rw [p4 2 (by decide) (by decide) (by decide)]; exact f2, by rw [p5, if_neg (by omega)]; rfl, by rw [p4 4 (by decide) (by decide) (by decide)]; exact f4, by rw [p4 5 (by decide) (by decide) (by decide)]; exact f5, ?_, fun _ => by rw [p4 7 (by decide) (by decide) (by decide)]; exact f7', by rw [p7]; exact fu⟩, p2, p3⟩
    rw [p6]
    cases cm with
    | true => rw [if_pos (Or.inr ⟨rfl, by omega⟩), if_pos rfl]
    | false => rw [if_neg (fun w => by rcases w with w | w; omega; cases w.1), if_neg (by decide)]
  by_cases q2 : k = 19
  · have e : nxt (st, dp, cm, am, wp, nt, R, me, mt, bs, A, O, ck, L, w, V) k v b = (4, dp, cm, am, wp, nt + 1, R, me, mt, bs, A, O, ck, L, 19 :: potW w, fun e => potV w (V e)) := by
      unfold nxt
      simp only
      rw [if_neg z0, if_neg z1, if_neg z2, if_neg z3, if_neg q1, if_pos q2]
    rw [e] at hQ
    subst q2
    have pw : pgW 6 (w ++ (cmW cm ck ++ bW bs)) = potW w ++ (cmW cm ck ++ bW bs) := pt_W (rest_W (by decide) h8 h5).1 w (okw_el w dp h6)
    obtain ⟨o1, o2⟩ := okw_pot w dp h6
    have ol := (okw_len _ dp o1).2.1 o2
    refine x_op_push (c := (potW w ++ (cmW cm ck ++ bW bs)).length) h hu (by omega) hCS hel hVl hW23 (by omega) (by rw [← pw]; rfl) (by rw [List.length_append]; omega) f6 (fun P yP cP => ⟨rfl, ?_⟩)
    have cP' : CS u P (rst u M R) nt (pgW 6 (w ++ (cmW cm ck ++ bW bs))) (fun e => pgV 6 (w ++ (cmW cm ck ++ bW bs)) (V e ++ (cmV cm L e ++ bV bs (A e) (O e)))) := cP
    rw [pw] at cP'
    have ee : (fun e => pgV 6 (w ++ (cmW cm ck ++ bW bs)) (V e ++ (cmV cm L e ++ bV bs (A e) (O e)))) = fun e => potV w (V e) ++ (cmV cm L e ++ bV bs (A e) (O e)) := by
      funext e
      exact pt_V (rest_W (by decide) h8 h5).2 w (V e) (okw_el w dp h6) (l7 e)
    rw [ee] at cP'
    obtain ⟨p1, p2, p3, p4, p5, p6, p7⟩ := push_CR (N := _) (k := 19) hu hRU rfl yP cP' rfl
    refine hQ _ p1 ⟨⟨by rw [p4 0 (by decide) (by decide) (by decide)]; exact f0, by rw [p4 1 (by decide) (by decide) (by decide)]; exact f1, by rw [p4 2 (by decide) (by decide) (by decide)]; exact f2, by rw [p5, if_neg (by omega)]; rfl, by rw [p4 4 (by decide) (by decide) (by decide)]; exact f4, by rw [p4 5 (by decide) (by decide) (by decide)]; exact f5, ?_, fun _ => by rw [p4 7 (by decide) (by decide) (by decide)]; exact f7', by rw [p7]; exact fu⟩, p2, p3⟩
    rw [p6]
    cases cm with
    | true => rw [if_pos (Or.inr ⟨rfl, by omega⟩), if_pos rfl]
    | false => rw [if_neg (fun w => by rcases w with w | w; omega; cases w.1), if_neg (by decide)]
  by_cases q3 : k = 21
  · have e : nxt (st, dp, cm, am, wp, nt, R, me, mt, bs, A, O, ck, L, w, V) k v b = (6, dp - 1, cm, am, wp, nt + 1, R, me, mt, bs, A, O, ck, L, (popW w).tail, fun e => popV w (V e)) := by
      unfold nxt
      simp only
      rw [if_neg z0, if_neg z1, if_neg z2, if_neg z3, if_neg q1, if_neg q2, if_pos q3]
    rw [e] at hQ
    subst q3
    have g6 : st = 6 ∧ 0 < dp := by unfold goes fo fl3 bo at g; omega
    obtain ⟨o1, o2⟩ := okw_pop w dp h6
    obtain ⟨w', hw⟩ : ∃ w', popW w = 20 :: w' := by
      rcases o2 with y | y
      · rw [y, okw] at o1; omega
      · cases hq : popW w with
        | nil => rw [hq] at y; cases y
        | cons a t => rw [hq] at y; cases y; exact ⟨t, rfl⟩
    have ol := (okw_len _ dp o1).1
    rw [hw, List.length_cons] at ol
    have pne : ¬ popW w = [] := by rw [hw]; intro z; cases z
    have pw : pgW 1 (w ++ (cmW cm ck ++ bW bs)) = 20 :: (w' ++ (cmW cm ck ++ bW bs)) := by
      rw [pg_W (by decide) (by decide) w (okw_el w dp h6), if_neg pne, hw]; rfl
    refine x_op_close (c := (w' ++ (cmW cm ck ++ bW bs)).length) h hu (by omega) hCS hel hVl hW23 (by rw [pw]; rfl) f5 g6.2 h2 (by rw [List.length_append]; omega) (fun P yP cP => ⟨rfl, ?_⟩)
    rw [pw] at cP
    have ee : (fun e => pgV 1 (w ++ (cmW cm ck ++ bW bs)) (V e ++ (cmV cm L e ++ bV bs (A e) (O e)))) = fun e => popV w (V e) ++ (cmV cm L e ++ bV bs (A e) (O e)) := by
      funext e
      rw [pg_V (by decide) (by decide) w (V e) (okw_el w dp h6) (l7 e), if_neg pne]
    rw [ee] at cP
    obtain ⟨N, hN⟩ : ∃ N, N = si (si P 18 8 ((w' ++ (cmW cm ck ++ bW bs)).length : Nat)) 18 5 (dp - 1 : Nat) := ⟨_, rfl⟩
    rw [← hN]
    have oth : ∀ a i, a ≠ 18 → gi N a i = gi P a i := fun a i ha => by rw [hN, gi_na ha, gi_na ha]
    have o18 : ∀ i, i ≠ 5 → i ≠ 8 → gi N 18 i = gi M 18 i := fun i h5 h8 => by rw [hN, gi_ni h5, gi_ni h8, yP.2 18 i (by unfold wdS; omega)]
    have p2 : ∀ i, gi N (u + 2) i = gi M (u + 2) i := fun i => by rw [oth _ i (by omega), yP.2 _ i (by unfold wdS; omega)]
    have yN : YF (rdS u) M N := by rw [hN]; exact YF_si (Or.inl rfl) (YF_si (Or.inl rfl) (rdwd yP))
    refine hQ N yN ⟨⟨by rw [o18 0 (by decide) (by decide)]; exact f0, by rw [o18 1 (by decide) (by decide)]; exact f1, by rw [o18 2 (by decide) (by decide)]; exact f2, by rw [o18 3 (by decide) (by decide), f3]; exact congrArg _ g6.1, by rw [o18 4 (by decide) (by decide)]; exact f4, by rw [hN, gi_same], by rw [o18 6 (by decide) (by decide)]; exact f6, fun _ => by rw [o18 7 (by decide) (by decide)]; exact f7', by rw [oth u 0 (by omega), yP.2 u 0 (by unfold wdS; omega)]; exact fu⟩, RU_f p2 (fun i => by rw [oth _ i (by omega), yP.2 _ i (by unfold wdS; omega)]) (fun i hi => by rw [oth _ i (by omega), yP.2 _ i (by unfold wdS; omega)]) hRU, ?_⟩
    rw [rst_f p2, hw]
    obtain ⟨a1, a2, cl, a3, a4, a5, a6, a7⟩ := cP
    rw [List.length_cons] at a5
    refine ⟨?_, stk_eq _ (fun j _ => oth _ _ (by decide)) a2.2, cl, by rw [oth u 1 (by omega)]; exact a3, a4, ?_, gd_eq (fun j _ => oth _ _ (by omega)) a6, fun e => by rw [rn_eq _ (fun j _ => oth _ _ (by omega)) e]; exact a7 e⟩
    · rw [hN]; simp only [Int.cast_ofNat_Int, kd_si, gr_si, ln_si, gi_same, gi_na, gi_ni, nl_i, nl_r, nl_j, nj_i, nj_l, nj_r, true_and, and_true, and_self, cs_0, cs_1, cs_2, cs_3, cs_4, ↓reduceIte, Nat.reduceLeDiff, Nat.reduceEqDiff, Nat.reduceAdd, Int.reduceLE, Int.reduceLT, Int.reduceEq, Int.reduceAdd, Int.reduceNeg, Int.reduceToNat, Int.toNat_natCast, ne_eq, not_false_eq_true, not_true_eq_false, or_true, true_or, or_false, false_or]; rfl
    · show cl + (w' ++ (cmW cm ck ++ bW bs)).length ≤ nt + 1
      omega
  have d0 : dp = 0 := by
    rcases s56 with y | y
    · exact (h10 (Or.inr y)).2.2
    · unfold goes fo fl3 bo at g; omega
  have pnil : popW w = [] := okw_0 w (by rw [← d0]; exact h6)
  have px : ∀ e, popV w (V e) = [(popV w (V e)).headD 0] := fun e => hd_1 (by rw [popV_len w _ (l7 e), pnil]; rfl)
  by_cases q4 : 13 ≤ k ∧ k ≤ 16
  · have e : nxt (st, dp, cm, am, wp, nt, R, me, mt, bs, A, O, ck, L, w, V) k v b = (4, dp, true, am, wp, nt + 1, R, me, mt, bs, A, O, k, (fun e => (popV w (V e)).headD 0), [], fun _ => []) := by
      unfold nxt
      simp only
      rw [if_neg z0, if_neg z1, if_neg z2, if_neg z3, if_neg q1, if_neg q2, if_neg q3, if_pos q4]
    rw [e] at hQ
    have c0 : cm = false := by
      cases cm with
      | false => rfl
      | true => unfold goes fo fl3 bo at g; simp only [reduceCtorEq, and_false, false_and, or_false] at g; omega
    subst c0
    have tk := tg_c q4.1 q4.2
    have pr : pgW 4 (bW bs) = bW bs ∧ ∀ x, pgV 4 (bW bs) x = x := by
      rcases (show bs = 0 ∨ bs = 1 ∨ bs = 2 ∨ bs = 3 by omega) with rfl | rfl | rfl | rfl <;> exact ⟨rfl, fun _ => rfl⟩
    have pw : pgW 4 (w ++ (cmW false ck ++ bW bs)) = bW bs := by
      rw [pg_W (by decide) (by decide) w (okw_el w dp h6), if_pos pnil]
      exact pr.1
    have bl : (bW bs).length ≤ 3 := r3
    refine x_op_push (c := (bW bs).length) h hu (by omega) hCS hel hVl hW23 (by omega) (by rw [tk, pw]) (by omega) f6 (fun P yP cP => ⟨rfl, ?_⟩)
    rw [tk, pw] at cP
    have ee : (fun e => pgV 4 (w ++ (cmW false ck ++ bW bs)) (V e ++ (cmV false L e ++ bV bs (A e) (O e)))) = fun e => (popV w (V e)).headD 0 :: bV bs (A e) (O e) := by
      funext e
      rw [pg_V (by decide) (by decide) w (V e) (okw_el w dp h6) (l7 e), if_pos pnil]
      show pgV 4 (bW bs) (popV w (V e) ++ bV bs (A e) (O e)) = _
      rw [pr.2]
      conv => lhs; rw [px e]
      rfl
    rw [ee] at cP
    obtain ⟨p1, p2, p3, p4, p5, p6, p7⟩ := push_CR (N := _) (k := k) hu hRU rfl yP cP rfl
    refine hQ _ p1 ⟨⟨by rw [p4 0 (by decide) (by decide) (by decide)]; exact f0, by rw [p4 1 (by decide) (by decide) (by decide)]; exact f1, by rw [p4 2 (by decide) (by decide) (by decide)]; exact f2, by rw [p5, if_neg (by omega)]; rfl, by rw [p4 4 (by decide) (by decide) (by decide)]; exact f4, by rw [p4 5 (by decide) (by decide) (by decide)]; exact f5, by rw [p6, if_pos (Or.inl q4), if_pos rfl], fun _ => by rw [p4 7 (by decide) (by decide) (by decide)]; exact f7', by rw [p7]; exact fu⟩, p2, p3⟩
  have litE : ∀ e, (if cm = true then jn ck (L e) ((popV w (V e)).headD 0) else (popV w (V e)).headD 0) = lit cm ck L w V e := fun e => rfl
  by_cases q5 : k = 12
  · have e : nxt (st, dp, cm, am, wp, nt, R, me, mt, bs, A, O, ck, L, w, V) k v b = (3, dp, false, am, wp, nt + 1, R, me, mt, (if bs = 1 ∨ bs = 3 then 3 else 2), gan bs A (lit cm ck L w V), O, ck, L, [], fun _ => []) := by
      unfold nxt
      simp only
      rw [if_neg z0, if_neg z1, if_neg z2, if_neg z3, if_neg q1, if_neg q2, if_neg q3, if_neg q4, if_pos q5]
    rw [e] at hQ
    subst q5
    have pw : pgW 3 (w ++ (cmW cm ck ++ bW bs)) = (if bs = 1 ∨ bs = 3 then [11] else []) := by
      rw [pg_W (by decide) (by decide) w (okw_el w dp h6), if_pos pnil]
      exact (rest_A (x := 0) (a := 0) (o := 0) (L := L) (e := fun _ => 0) h8 h5).1
    refine x_op_push (c := (if bs = 1 ∨ bs = 3 then [11] else [] : List Int).length) h hu (by omega) hCS hel hVl hW23 (by omega) (by rw [← pw]; rfl) (by split <;> decide) f6 (fun P yP cP => ⟨rfl, ?_⟩)
    have cP' : CS u P (rst u M R) nt (pgW 3 (w ++ (cmW cm ck ++ bW bs))) (fun e => pgV 3 (w ++ (cmW cm ck ++ bW bs)) (V e ++ (cmV cm L e ++ bV bs (A e) (O e)))) := cP
    rw [pw] at cP'
    have ee : (fun e => pgV 3 (w ++ (cmW cm ck ++ bW bs)) (V e ++ (cmV cm L e ++ bV bs (A e) (O e)))) = fun e => gan bs A (lit cm ck L w V) e :: (if bs = 1 ∨ bs = 3 then [O e] else []) := by
      funext e
      rw [pg_V (by decide) (by decide) w (V e) (okw_el w dp h6) (l7 e), if_pos pnil]
      conv => lhs; rw [px e]
      rw [(rest_A h8 h5).2]
      rfl
    rw [ee] at cP'
    obtain ⟨p1, p2, p3, p4, p5, p6, p7⟩ := push_CR (N := _) (k := 12) hu hRU rfl yP cP' rfl
    refine hQ _ p1 ⟨⟨by rw [p4 0 (by decide) (by decide) (by decide)]; exact f0, by rw [p4 1 (by decide) (by decide) (by decide)]; exact f1, by rw [p4 2 (by decide) (by decide) (by decide)]; exact f2, by rw [p5]; rfl, by rw [p4 4 (by decide) (by decide) (by decide)]; exact f4, by rw [p4 5 (by decide) (by decide) (by decide)]; exact f5, ?_, fun _ => by rw [p4 7 (by decide) (by decide) (by decide)]; exact f7', by rw [p7]; exact fu⟩, p2, ?_⟩
    · rw [p6, if_neg (by omega)]; rfl
    · by_cases y : bs = 1 ∨ bs = 3
      · simp only [if_pos y] at p3 ⊢
        exact p3
      · simp only [if_neg y] at p3 ⊢
        exact p3
  by_cases q6 : k = 11
  · have e : nxt (st, dp, cm, am, wp, nt, R, me, mt, bs, A, O, ck, L, w, V) k v b = (3, dp, false, am, wp, nt + 1, R, me, mt, 1, A, gor bs O (gan bs A (lit cm ck L w V)), ck, L, [], fun _ => []) := by
      unfold nxt
      simp only
      rw [if_neg z0, if_neg z1, if_neg z2, if_neg z3, if_neg q1, if_neg q2, if_neg q3, if_neg q4, if_neg q5, if_pos q6]
    rw [e] at hQ
    subst q6
    have pw : pgW 2 (w ++ (cmW cm ck ++ bW bs)) = [] := by
      rw [pg_W (by decide) (by decide) w (okw_el w dp h6), if_pos pnil]
      exact (rest_O (Or.inr rfl) (x := 0) (a := 0) (o := 0) (L := L) (e := fun _ => 0) h8 h5).1
    refine x_op_push (c := 0) h hu (by omega) hCS hel hVl hW23 (by omega) (by show (pgW 2 _).length = 0; rw [pw]; rfl) (by decide) f6 (fun P yP cP => ⟨rfl, ?_⟩)
    have cP' : CS u P (rst u M R) nt (pgW 2 (w ++ (cmW cm ck ++ bW bs))) (fun e => pgV 2 (w ++ (cmW cm ck ++ bW bs)) (V e ++ (cmV cm L e ++ bV bs (A e) (O e)))) := cP
    rw [pw] at cP'
    have ee : (fun e => pgV 2 (w ++ (cmW cm ck ++ bW bs)) (V e ++ (cmV cm L e ++ bV bs (A e) (O e)))) = fun e => [gor bs O (gan bs A (lit cm ck L w V)) e] := by
      funext e
      rw [pg_V (by decide) (by decide) w (V e) (okw_el w dp h6) (l7 e), if_pos pnil]
      conv => lhs; rw [px e]
      rw [(rest_O (Or.inr rfl) h8 h5).2]
      rfl
    rw [ee] at cP'
    obtain ⟨p1, p2, p3, p4, p5, p6, p7⟩ := push_CR (N := _) (k := 11) (c := 0) hu hRU rfl yP cP' rfl
    refine hQ _ p1 ⟨⟨by rw [p4 0 (by decide) (by decide) (by decide)]; exact f0, by rw [p4 1 (by decide) (by decide) (by decide)]; exact f1, by rw [p4 2 (by decide) (by decide) (by decide)]; exact f2, by rw [p5]; rfl, by rw [p4 4 (by decide) (by decide) (by decide)]; exact f4, by rw [p4 5 (by decide) (by decide) (by decide)]; exact f5, ?_, fun _ => by rw [p4 7 (by decide) (by decide) (by decide)]; exact f7', by rw [p7]; exact fu⟩, p2, p3⟩
    rw [p6, if_neg (by omega)]; rfl
  have q7 : k = 22 := by omega
  have e : nxt (st, dp, cm, am, wp, nt, R, me, mt, bs, A, O, ck, L, w, V) k v b = (0, dp, false, am, wp, nt + 1, R + 1, (fun r => if r = R then gor bs O (gan bs A (lit cm ck L w V)) else me r), (fun r => if r = R then am else mt r), 0, A, O, ck, L, [], fun _ => []) := by
    unfold nxt
    simp only
    rw [if_neg z0, if_neg z1, if_neg z2, if_neg z3, if_neg q1, if_neg q2, if_neg q3, if_neg q4, if_neg q5, if_neg q6]
  rw [e] at hQ
  subst q7
  have pw : pgW 1 (w ++ (cmW cm ck ++ bW bs)) = [] := by
    rw [pg_W (by decide) (by decide) w (okw_el w dp h6), if_pos pnil]
    exact (rest_O (Or.inl rfl) (x := 0) (a := 0) (o := 0) (L := L) (e := fun _ => 0) h8 h5).1
  refine x_op_stop h hu (by omega) hCS hel hVl hW23 f7' fu hR (fun P cl yP cP hcl => ⟨rfl, ?_⟩)
  rw [pw] at cP
  have ee : (fun e => pgV 1 (w ++ (cmW cm ck ++ bW bs)) (V e ++ (cmV cm L e ++ bV bs (A e) (O e)))) = fun e => [gor bs O (gan bs A (lit cm ck L w V)) e] := by
    funext e
    rw [pg_V (by decide) (by decide) w (V e) (okw_el w dp h6) (l7 e), if_pos pnil]
    conv => lhs; rw [px e]
    rw [(rest_O (Or.inl rfl) h8 h5).2]
    rfl
  rw [ee] at cP
  obtain ⟨N, hN⟩ : ∃ N, N = si (si (si (si (si P (u + 2) R cl) (u + 3) R am) u 0 (R + 1 : Nat)) 18 6 0) 18 3 0 := ⟨_, rfl⟩
  rw [← hN]
  have yN : YF (rdS u) M N := by rw [hN]; exact YF_si (Or.inl rfl) (YF_si (Or.inl rfl) (YF_si (Or.inr (Or.inr (Or.inl rfl))) (YF_si (Or.inr (Or.inr (Or.inr ⟨by omega, by omega⟩))) (YF_si (Or.inr (Or.inr (Or.inr ⟨by omega, by omega⟩))) (rdwd yP)))))
  have o18 : ∀ i, i ≠ 3 → i ≠ 6 → gi N 18 i = gi P 18 i := fun i h3 h6 => by rw [hN, gi_ni h3, gi_ni h6, gi_na (by omega), gi_na (by omega), gi_na (by omega)]
  have m18 : ∀ i, i ≠ 3 → i ≠ 6 → i ≠ 8 → gi N 18 i = gi M 18 i := fun i h3 h6 h8 => by rw [o18 i h3 h6, yP.2 18 i (by unfold wdS; omega)]
  have nw : ∀ i, gi N (u + 1) i = gi P (u + 1) i := fun i => by rw [hN, gi_na (by omega), gi_na (by omega), gi_na (by omega), gi_na (by omega), gi_na (by omega)]
  have n2 : ∀ i, gi N (u + 2) i = if i = R then (cl : Int) else gi M (u + 2) i := fun i => by
    rw [hN, gi_na (by omega), gi_na (by omega), gi_na (by omega), gi_na (by omega), gi_si]
    by_cases y : i = R
    · rw [if_pos ⟨rfl, y⟩, if_pos y]
    · rw [if_neg (fun w => y w.2), if_neg y, yP.2 _ i (by unfold wdS; omega)]
  have n3 : ∀ i, gi N (u + 3) i = if i = R then am else gi M (u + 3) i := fun i => by
    rw [hN, gi_na (by omega), gi_na (by omega), gi_na (by omega), gi_si]
    by_cases y : i = R
    · rw [if_pos ⟨rfl, y⟩, if_pos y]
    · rw [if_neg (fun w => y w.2), if_neg y, gi_na (by omega), yP.2 _ i (by unfold wdS; omega)]
  have rs : ∀ r, r ≤ R → rst u N r = rst u M r := fun r hr => by
    unfold rst
    by_cases y : r = 0
    · rw [if_pos y, if_pos y]
    · rw [if_neg y, if_neg y, n2, if_neg (by omega)]
  have rsR : rst u N (R + 1) = cl := by
    unfold rst
    rw [if_neg (by omega), Nat.add_sub_cancel, n2, if_pos rfl, Int.toNat_natCast]
  obtain ⟨a1, a2, cl', a3, a4, a5, a6, a7⟩ := cP
  have ecl : cl' = cl := by omega
  subst ecl
  have wM : ∀ i, i < rst u M R → gi N (u + 1) i = gi M (u + 1) i := fun i hi => by rw [nw, yP.2 _ i (by unfold wdS; omega)]
  refine hQ N yN ⟨⟨by rw [m18 0 (by decide) (by decide) (by decide)]; exact f0, by rw [m18 1 (by decide) (by decide) (by decide)]; exact f1, by rw [m18 2 (by decide) (by decide) (by decide)]; exact f2, by rw [hN, gi_same]; rfl, by rw [m18 4 (by decide) (by decide) (by decide)]; exact f4, by rw [m18 5 (by decide) (by decide) (by decide)]; exact f5, by rw [hN]; simp only [Int.cast_ofNat_Int, kd_si, gr_si, ln_si, gi_same, gi_na, gi_ni, nl_i, nl_r, nl_j, nj_i, nj_l, nj_r, true_and, and_true, and_self, cs_0, cs_1, cs_2, cs_3, cs_4, ↓reduceIte, Nat.reduceLeDiff, Nat.reduceEqDiff, Nat.reduceAdd, Int.reduceLE, Int.reduceLT, Int.reduceEq, Int.reduceAdd, Int.reduceNeg, Int.reduceToNat, Int.toNat_natCast, ne_eq, not_false_eq_true, not_true_eq_false, or_true, true_or, or_false, false_or]; rfl, fun z => absurd rfl z, by rw [hN, gi_na (by omega), gi_na (by omega), gi_same]⟩, ?_, ?_⟩
  · intro r hr
    by_cases y : r = R
    · subst y
      rw [rs r (Nat.le_refl r), rsR, n2, if_pos rfl, n3, if_pos rfl]
      refine ⟨by omega, a4, by omega, (if_pos rfl).symm, gd_eq (fun j _ => nw _) a6, fun e => ?_⟩
      rw [rn_eq _ (fun j _ => nw _) e, a7 e]
      simp only [if_pos]
    · obtain ⟨b1, b2, b3, b4, b5, b6⟩ := hRU r (by omega)
      have mono := rst_mono hRU (R - (r + 1)) (r + 1) (by omega)
      have eq : ∀ j, j < rst u M (r + 1) - rst u M r → gi N (u + 1) (rst u M r + j) = gi M (u + 1) (rst u M r + j) := fun j hj => wM _ (by omega)
      rw [rs r (by omega), rs (r + 1) (by omega), n2, if_neg y, n3, if_neg y]
      refine ⟨b1, b2, b3, b4.trans (if_neg y).symm, gd_eq eq b5, fun e => ?_⟩
      rw [rn_eq _ eq e]
      simp only [if_neg y]
      exact b6 e
  · rw [rsR]
    refine ⟨by rw [o18 8 (by decide) (by decide)]; exact a1, trivial, cl', ?_, Nat.le_refl _, ?_, ?_, fun e => ?_⟩
    · rw [hN, gi_na (by omega), gi_na (by omega), gi_ni (by decide), gi_na (by omega), gi_na (by omega)]; exact hcl
    · show cl' + 0 ≤ nt + 1
      omega
    · rw [Nat.sub_self]; intro k hk; exact absurd hk (Nat.not_lt_zero k)
    · rw [Nat.sub_self]; rfl
end TAKEB
