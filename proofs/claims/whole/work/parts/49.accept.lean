/-! ===== the class accepts a token ===== -/
def f18 (a i : Nat) : Prop := a = 18 ∧ i ≠ 8
theorem rst_18 {u : Nat} {M N : mM} (hu : u = 21 ∨ u = 26) (h : YF f18 M N) (r : Nat) : rst u N r = rst u M r := rst_f (fun i => h.2 _ i (by unfold f18; omega)) r
theorem RU_18 {u : Nat} {M N : mM} {R : Nat} {me : Nat → Env → Int} {mt : Nat → Int} (hu : u = 21 ∨ u = 26) (h : YF f18 M N) (k : RU u M R me mt) : RU u N R me mt := RU_f (fun i => h.2 _ i (by unfold f18; omega)) (fun i => h.2 _ i (by unfold f18; omega)) (fun i _ => h.2 _ i (by unfold f18; omega)) k
theorem CS_18 {u : Nat} {M N : mM} {s n n' : Nat} {W : List Int} {V : Env → List Int} (hu : u = 21 ∨ u = 26) (h : YF f18 M N) (hn : n ≤ n') (k : CS u M s n W V) : CS u N s n' W V := CS_f (h.2 _ _ (by unfold f18; omega)) (fun i => h.2 _ i (by unfold f18; omega)) (h.2 _ _ (by unfold f18; omega)) (fun i => h.2 _ i (by unfold f18; omega)) hn k
theorem rd18 {u : Nat} {M N : mM} (h : YF f18 M N) : YF (rdS u) M N := YF_mono (fun a i w => Or.inl w.1) h
theorem rdwd {u s : Nat} {M N : mM} (h : YF (wdS u s) M N) : YF (rdS u) M N := YF_mono (fun a i w => by unfold wdS at w; unfold rdS; omega) h
theorem bW_el {bs : Nat} : ∀ x ∈ bW bs, 11 ≤ x ∧ x ≤ 20 := by
  unfold bW
  intro x hx
  split at hx
  · rcases List.mem_cons.mp hx with z | z
    · omega
    · cases z
  split at hx
  · rcases List.mem_cons.mp hx with z | z
    · omega
    · cases z
  split at hx
  · rcases List.mem_cons.mp hx with z | z
    · omega
    · rcases List.mem_cons.mp z with z | z
      · omega
      · cases z
  · cases hx
theorem full_el {w : List Int} {dp bs : Nat} {cm : Bool} {ck : Int} (hw : okw w dp) (hc : cm = true → 13 ≤ ck ∧ ck ≤ 16) : ∀ x ∈ w ++ (cmW cm ck ++ bW bs), 11 ≤ x ∧ x ≤ 20 := by
  intro x hx
  rcases List.mem_append.mp hx with z | z
  · have := okw_el w dp hw x z; omega
  · rcases List.mem_append.mp z with z | z
    · cases cm with
      | true =>
        have := hc rfl
        rcases List.mem_cons.mp z with y | y
        · omega
        · cases y
      | false => cases z
    · exact bW_el x z
theorem nops_app : ∀ (w r : List Int), nops (w ++ r) = nops w + nops r := by
  intro w
  induction w with
  | nil => intro r; rw [nops, Nat.zero_add]; rfl
  | cons k w ih => intro r; rw [List.cons_append, nops, nops, ih]; omega
theorem nops_le : ∀ (w : List Int), nops w ≤ w.length := by
  intro w
  induction w with
  | nil => exact Nat.le_refl 0
  | cons k w ih =>
    rw [nops, List.length_cons]
    split <;> omega
theorem rest_nops {cm : Bool} {ck : Int} {bs : Nat} {L : Env → Int} {a o : Int} (hc : cm = true → 13 ≤ ck ∧ ck ≤ 16) (hb : bs ≤ 3) (e : Env) : (cmV cm L e ++ bV bs a o).length = nops (cmW cm ck ++ bW bs) ∧ (cmW cm ck ++ bW bs).length ≤ 3 ∧ nops (cmW cm ck ++ bW bs) = (cmW cm ck ++ bW bs).length := by
  have hq : ∀ r, cm = true → nops (ck :: r) = 1 + nops r := fun r w => by rw [nops, if_neg (by have := hc w; omega)]
  rcases (show bs = 0 ∨ bs = 1 ∨ bs = 2 ∨ bs = 3 by omega) with rfl | rfl | rfl | rfl <;> cases cm
  · exact ⟨rfl, (by decide : 0 ≤ 3), rfl⟩
  · have := hq [] rfl
    exact ⟨this.symm, (by decide : 1 ≤ 3), this⟩
  · exact ⟨rfl, (by decide : 1 ≤ 3), rfl⟩
  · have := hq [11] rfl
    exact ⟨this.symm, (by decide : 2 ≤ 3), this⟩
  · exact ⟨rfl, (by decide : 1 ≤ 3), rfl⟩
  · have := hq [12] rfl
    exact ⟨this.symm, (by decide : 2 ≤ 3), this⟩
  · exact ⟨rfl, (by decide : 2 ≤ 3), rfl⟩
  · have := hq [12, 11] rfl
    exact ⟨this.symm, (by decide : 3 ≤ 3), this⟩
theorem hd_1 {v : List Int} (h : v.length = 1) : v = [v.headD 0] := by
  match v, h with
  | [x], _ => rfl
section TAKE
variable {d : Nat} {M : mM} {Q : mV → mM → Prop} {u st dp nt R bs : Nat} {cm : Bool} {am wp ck k v : Int} {me : Nat → Env → Int} {mt : Nat → Int} {A O L : Env → Int} {w : List Int} {V : Env → List Int} {b : Nat}
theorem x_takeA (h : SH M) (hu : u = 21 ∨ u = 26) (f0 : gi M 18 0 = 0) (f1 : gi M 18 1 = -1) (f2 : gi M 18 2 = wp) (f3 : gi M 18 3 = st) (f4 : gi M 18 4 = (nt + 1 : Nat)) (f5 : gi M 18 5 = dp) (f6 : gi M 18 6 = if cm = true then 1 else 0) (f7 : st ≠ 0 → gi M 18 7 = am) (fu : gi M u 0 = R) (hRU : RU u M R me mt)
    (hCS : CS u M (rst u M R) nt (w ++ (cmW cm ck ++ bW bs)) (fun e => V e ++ (cmV cm L e ++ bV bs (A e) (O e)))) (hp : PI (st, dp, cm, am, wp, nt, R, me, mt, bs, A, O, ck, L, w, V)) (g : goes st dp cm k) (m : ¬ much st dp nt R k) (hst4 : st ≤ 4)
    (hk : gi M 16 1 = k) (hv : k = 1 → gi M 16 2 = v ∧ 0 ≤ v) (hb : gi M 16 3 = b)
    (hQ : ∀ N, YF (rdS u) M N → CR u N (nxt (st, dp, cm, am, wp, nt, R, me, mt, bs, A, O, ck, L, w, V) k v b) → Q vj N) : CP (mc (d + 4)) 86 [vr (some 18), vr (some 16), vr (some u)] M Q := by
  obtain ⟨h1, h2, h3, h4, h5, h6, h7, h8, h9, h10, h11⟩ := hp
  have n4 : nt < 400 := by unfold much at m; omega
  have u18 : u ≠ 18 := by omega
  have ku : kd M u = 10 := (wsh h hu).1
  have a18 : ∀ i, i ≠ 8 → f18 18 i := fun i hi => ⟨rfl, hi⟩
  by_cases z0 : st = 0
  · subst z0
    have e : ∀ x : Nat, x = (if k = 23 then 1 else 2) → nxt (0, dp, cm, am, wp, nt, R, me, mt, bs, A, O, ck, L, w, V) k v b = (x, dp, cm, 0, wp, nt + 1, R, me, mt, bs, A, O, ck, L, w, V) := fun x hx => by rw [hx]; rfl
    have g' : k = 23 ∨ k = 24 := by unfold goes at g; omega
    have fin : ∀ x : Nat, x = (if k = 23 then 1 else 2) → Q vj (si (si M 18 7 0) 18 3 x) := fun x hx => by
      have y : YF f18 M (si (si M 18 7 0) 18 3 x) := YF_si (a18 3 (by decide)) (YF_si (a18 7 (by decide)) YF_refl)
      refine hQ _ (rd18 y) ?_
      rw [e x hx]
      refine ⟨?_, RU_18 hu y hRU, ?_⟩
      · simp only [Int.cast_ofNat_Int, kd_si, gr_si, ln_si, gi_same, gi_na, gi_ni, nl_i, nl_r, nl_j, nj_i, nj_l, nj_r, true_and, and_true, and_self, cs_0, cs_1, cs_2, cs_3, cs_4, ↓reduceIte, Nat.reduceLeDiff, Nat.reduceEqDiff, Nat.reduceAdd, Int.reduceLE, Int.reduceLT, Int.reduceEq, Int.reduceAdd, Int.reduceNeg, Int.reduceToNat, Int.toNat_natCast, ne_eq, not_false_eq_true, not_true_eq_false, or_true, true_or, or_false, false_or, f0, f1, f2, f4, f5, f6, fu, u18, implies_true]
      · rw [rst_18 hu y]; exact CS_18 hu y (by omega) hCS
    rcases g' with z | z
    · have := fin 1 (by rw [if_pos z])
      simp only [↓cpX9_take, ↓eX9_take_0, ↓eX9_take_1, ↓eX9_take_4, ↓eX9_take_40, ↓eX9_take_41, ↓eX9_take_42, ↓eX9_take_45, ↓eX9_take_46, ↓eX9_take_47, ↓eX9_take_50, ↓eX9_take_52, ↓eX9_take_55, ↓eX9_take_56, ↓eX9_take_59, ↓eX9_take_60, ↓eX9_take_63, ↓eX9_take_66, ↓eX9_take_67, ↓eX9_take_68, ↓eX9_take_71, ↓eX9_take_74, ↓eX9_take_75, ↓eX9_take_76, ↓eX9_take_79, ↓eX9_take_82, ↓eX9_take_83, ↓eX9_take_84, ↓eX9_take_85, ↓eX9_take_88, ↓eX9_take_91, ↓eX9_take_92, ↓eX9_take_93, ↓eX9_take_96, ↓eX9_take_97, ↓eX9_take_100, hk18 h, hk16 h, f3, hk, z, Int.cast_ofNat_Int, kd_si, gr_si, ln_si, gi_same, gi_na, gi_ni, nl_i, nl_r, nl_j, nj_i, nj_l, nj_r, true_and, and_true, and_self, cs_0, cs_1, cs_2, cs_3, cs_4, ↓reduceIte, Nat.reduceLeDiff, Nat.reduceEqDiff, Nat.reduceAdd, Int.reduceLE, Int.reduceLT, Int.reduceEq, Int.reduceAdd, Int.reduceNeg, Int.reduceToNat, Int.toNat_natCast, ne_eq, not_false_eq_true, not_true_eq_false, or_true, true_or, or_false, false_or]
      exact this
    · have := fin 2 (by rw [if_neg (by omega)])
      simp only [↓cpX9_take, ↓eX9_take_0, ↓eX9_take_1, ↓eX9_take_4, ↓eX9_take_40, ↓eX9_take_41, ↓eX9_take_42, ↓eX9_take_45, ↓eX9_take_46, ↓eX9_take_47, ↓eX9_take_50, ↓eX9_take_52, ↓eX9_take_55, ↓eX9_take_56, ↓eX9_take_59, ↓eX9_take_60, ↓eX9_take_63, ↓eX9_take_66, ↓eX9_take_67, ↓eX9_take_68, ↓eX9_take_71, ↓eX9_take_74, ↓eX9_take_75, ↓eX9_take_76, ↓eX9_take_79, ↓eX9_take_82, ↓eX9_take_83, ↓eX9_take_84, ↓eX9_take_85, ↓eX9_take_88, ↓eX9_take_91, ↓eX9_take_92, ↓eX9_take_93, ↓eX9_take_96, ↓eX9_take_97, ↓eX9_take_100, hk18 h, hk16 h, f3, hk, z, Int.cast_ofNat_Int, kd_si, gr_si, ln_si, gi_same, gi_na, gi_ni, nl_i, nl_r, nl_j, nj_i, nj_l, nj_r, true_and, and_true, and_self, cs_0, cs_1, cs_2, cs_3, cs_4, ↓reduceIte, Nat.reduceLeDiff, Nat.reduceEqDiff, Nat.reduceAdd, Int.reduceLE, Int.reduceLT, Int.reduceEq, Int.reduceAdd, Int.reduceNeg, Int.reduceToNat, Int.toNat_natCast, ne_eq, not_false_eq_true, not_true_eq_false, or_true, true_or, or_false, false_or]
      exact this
  have f7' := f7 z0
  have hR := h11 z0
  by_cases z1 : st = 1
  · subst z1
    have gk : k = 1 := by unfold goes at g; omega
    obtain ⟨v1, v2⟩ := hv gk
    have e : ∀ x : Int, x = (if wp = -1 ∧ (v < 1 ∨ 1000 < v) then (b : Int) else wp) → nxt (1, dp, cm, am, wp, nt, R, me, mt, bs, A, O, ck, L, w, V) k v b = (2, dp, cm, v, x, nt + 1, R, me, mt, bs, A, O, ck, L, w, V) := fun x hx => by rw [hx]; rfl
    have fin : ∀ N (x : Int), x = (if wp = -1 ∧ (v < 1 ∨ 1000 < v) then (b : Int) else wp) → YF f18 M N → gi N 18 0 = 0 ∧ gi N 18 1 = -1 ∧ gi N 18 2 = x ∧ gi N 18 3 = 2 ∧ gi N 18 4 = (nt + 1 : Nat) ∧ gi N 18 5 = dp ∧ gi N 18 6 = (if cm = true then 1 else 0) ∧ gi N 18 7 = v → Q vj N := fun N x hx y a => by
      refine hQ _ (rd18 y) ?_
      rw [e x hx]
      obtain ⟨a0, a1, a2, a3, a4, a5, a6, a7⟩ := a
      refine ⟨⟨a0, a1, a2, a3, a4, a5, a6, fun _ => a7, ?_⟩, RU_18 hu y hRU, ?_⟩
      · rw [y.2 u 0 (by unfold f18; omega)]; exact fu
      · rw [rst_18 hu y]; exact CS_18 hu y (by omega) hCS
    by_cases q1 : wp = -1
    · by_cases q2 : v < 1
      · have ff := fin (si (si (si M 18 7 v) 18 2 b) 18 3 2) b (by rw [if_pos ⟨q1, Or.inl q2⟩]) (YF_si (a18 3 (by decide)) (YF_si (a18 2 (by decide)) (YF_si (a18 7 (by decide)) YF_refl))) (by simp only [Int.cast_ofNat_Int, kd_si, gr_si, ln_si, gi_same, gi_na, gi_ni, nl_i, nl_r, nl_j, nj_i, nj_l, nj_r, true_and, and_true, and_self, cs_0, cs_1, cs_2, cs_3, cs_4, ↓reduceIte, Nat.reduceLeDiff, Nat.reduceEqDiff, Nat.reduceAdd, Int.reduceLE, Int.reduceLT, Int.reduceEq, Int.reduceAdd, Int.reduceNeg, Int.reduceToNat, Int.toNat_natCast, ne_eq, not_false_eq_true, not_true_eq_false, or_true, true_or, or_false, false_or, f0, f1, f4, f5, f6])
        simp only [↓cpX9_take, ↓eX9_take_0, ↓eX9_take_1, ↓eX9_take_4, ↓eX9_take_40, ↓eX9_take_41, ↓eX9_take_42, ↓eX9_take_45, ↓eX9_take_46, ↓eX9_take_47, ↓eX9_take_50, ↓eX9_take_52, ↓eX9_take_55, ↓eX9_take_56, ↓eX9_take_59, ↓eX9_take_60, ↓eX9_take_63, ↓eX9_take_66, ↓eX9_take_67, ↓eX9_take_68, ↓eX9_take_71, ↓eX9_take_74, ↓eX9_take_75, ↓eX9_take_76, ↓eX9_take_79, ↓eX9_take_82, ↓eX9_take_83, ↓eX9_take_84, ↓eX9_take_85, ↓eX9_take_88, ↓eX9_take_91, ↓eX9_take_92, ↓eX9_take_93, ↓eX9_take_96, ↓eX9_take_97, ↓eX9_take_100, ↓cpX9_takeAmount, ↓eX9_takeAmount_0, ↓eX9_takeAmount_1, ↓eX9_takeAmount_2, ↓eX9_takeAmount_5, ↓eX9_takeAmount_8, ↓eX9_takeAmount_9, ↓eX9_takeAmount_12, ↓eX9_takeAmount_13, ↓eX9_takeAmount_16, ↓eX9_takeAmount_17, ↓eX9_takeAmount_20, ↓eX9_takeAmount_21, ↓eX9_takeAmount_24, ↓eX9_takeAmount_25, ↓eX9_takeAmount_28, ↓eX9_takeAmount_31, ↓eX9_takeAmount_34, ↓eX9_takeAmount_35, ↓eX9_takeAmount_36, ↓eX9_takeAmount_39, ↓eX9_takeAmount_42, ↓eX9_takeAmount_43, ↓eX9_takeAmount_44, ↓eX9_takeAmount_47, hk18 h, hk16 h, f3, f2, v1, hb, q1, q2, Int.cast_ofNat_Int, kd_si, gr_si, ln_si, gi_same, gi_na, gi_ni, nl_i, nl_r, nl_j, nj_i, nj_l, nj_r, true_and, and_true, and_self, cs_0, cs_1, cs_2, cs_3, cs_4, ↓reduceIte, Nat.reduceLeDiff, Nat.reduceEqDiff, Nat.reduceAdd, Int.reduceLE, Int.reduceLT, Int.reduceEq, Int.reduceAdd, Int.reduceNeg, Int.reduceToNat, Int.toNat_natCast, ne_eq, not_false_eq_true, not_true_eq_false, or_true, true_or, or_false, false_or]
        exact ff
      · by_cases q3 : 1000 < v
        · have q3' : (v ≤ 1000) = False := eq_false (by omega)
          have ff := fin (si (si (si M 18 7 v) 18 2 b) 18 3 2) b (by rw [if_pos ⟨q1, Or.inr q3⟩]) (YF_si (a18 3 (by decide)) (YF_si (a18 2 (by decide)) (YF_si (a18 7 (by decide)) YF_refl))) (by simp only [Int.cast_ofNat_Int, kd_si, gr_si, ln_si, gi_same, gi_na, gi_ni, nl_i, nl_r, nl_j, nj_i, nj_l, nj_r, true_and, and_true, and_self, cs_0, cs_1, cs_2, cs_3, cs_4, ↓reduceIte, Nat.reduceLeDiff, Nat.reduceEqDiff, Nat.reduceAdd, Int.reduceLE, Int.reduceLT, Int.reduceEq, Int.reduceAdd, Int.reduceNeg, Int.reduceToNat, Int.toNat_natCast, ne_eq, not_false_eq_true, not_true_eq_false, or_true, true_or, or_false, false_or, f0, f1, f4, f5, f6])
          simp only [↓cpX9_take, ↓eX9_take_0, ↓eX9_take_1, ↓eX9_take_4, ↓eX9_take_40, ↓eX9_take_41, ↓eX9_take_42, ↓eX9_take_45, ↓eX9_take_46, ↓eX9_take_47, ↓eX9_take_50, ↓eX9_take_52, ↓eX9_take_55, ↓eX9_take_56, ↓eX9_take_59, ↓eX9_take_60, ↓eX9_take_63, ↓eX9_take_66, ↓eX9_take_67, ↓eX9_take_68, ↓eX9_take_71, ↓eX9_take_74, ↓eX9_take_75, ↓eX9_take_76, ↓eX9_take_79, ↓eX9_take_82, ↓eX9_take_83, ↓eX9_take_84, ↓eX9_take_85, ↓eX9_take_88, ↓eX9_take_91, ↓eX9_take_92, ↓eX9_take_93, ↓eX9_take_96, ↓eX9_take_97, ↓eX9_take_100, ↓cpX9_takeAmount, ↓eX9_takeAmount_0, ↓eX9_takeAmount_1, ↓eX9_takeAmount_2, ↓eX9_takeAmount_5, ↓eX9_takeAmount_8, ↓eX9_takeAmount_9, ↓eX9_takeAmount_12, ↓eX9_takeAmount_13, ↓eX9_takeAmount_16, ↓eX9_takeAmount_17, ↓eX9_takeAmount_20, ↓eX9_takeAmount_21, ↓eX9_takeAmount_24, ↓eX9_takeAmount_25, ↓eX9_takeAmount_28, ↓eX9_takeAmount_31, ↓eX9_takeAmount_34, ↓eX9_takeAmount_35, ↓eX9_takeAmount_36, ↓eX9_takeAmount_39, ↓eX9_takeAmount_42, ↓eX9_takeAmount_43, ↓eX9_takeAmount_44, ↓eX9_takeAmount_47, hk18 h, hk16 h, f3, f2, v1, hb, q1, q2, q3', Int.cast_ofNat_Int, kd_si, gr_si, ln_si, gi_same, gi_na, gi_ni, nl_i, nl_r, nl_j, nj_i, nj_l, nj_r, true_and, and_true, and_self, cs_0, cs_1, cs_2, cs_3, cs_4, ↓reduceIte, Nat.reduceLeDiff, Nat.reduceEqDiff, Nat.reduceAdd, Int.reduceLE, Int.reduceLT, Int.reduceEq, Int.reduceAdd, Int.reduceNeg, Int.reduceToNat, Int.toNat_natCast, ne_eq, not_false_eq_true, not_true_eq_false, or_true, true_or, or_false, false_or]
          exact ff
        · have q3' : (v ≤ 1000) = True := eq_true (by omega)
          have ff := fin (si (si M 18 7 v) 18 3 2) wp (by rw [if_neg (by omega)]) (YF_si (a18 3 (by decide)) (YF_si (a18 7 (by decide)) YF_refl)) (by simp only [Int.cast_ofNat_Int, kd_si, gr_si, ln_si, gi_same, gi_na, gi_ni, nl_i, nl_r, nl_j, nj_i, nj_l, nj_r, true_and, and_true, and_self, cs_0, cs_1, cs_2, cs_3, cs_4, ↓reduceIte, Nat.reduceLeDiff, Nat.reduceEqDiff, Nat.reduceAdd, Int.reduceLE, Int.reduceLT, Int.reduceEq, Int.reduceAdd, Int.reduceNeg, Int.reduceToNat, Int.toNat_natCast, ne_eq, not_false_eq_true, not_true_eq_false, or_true, true_or, or_false, false_or, f0, f1, f2, f4, f5, f6])
          simp only [↓cpX9_take, ↓eX9_take_0, ↓eX9_take_1, ↓eX9_take_4, ↓eX9_take_40, ↓eX9_take_41, ↓eX9_take_42, ↓eX9_take_45, ↓eX9_take_46, ↓eX9_take_47, ↓eX9_take_50, ↓eX9_take_52, ↓eX9_take_55, ↓eX9_take_56, ↓eX9_take_59, ↓eX9_take_60, ↓eX9_take_63, ↓eX9_take_66, ↓eX9_take_67, ↓eX9_take_68, ↓eX9_take_71, ↓eX9_take_74, ↓eX9_take_75, ↓eX9_take_76, ↓eX9_take_79, ↓eX9_take_82, ↓eX9_take_83, ↓eX9_take_84, ↓eX9_take_85, ↓eX9_take_88, ↓eX9_take_91, ↓eX9_take_92, ↓eX9_take_93, ↓eX9_take_96, ↓eX9_take_97, ↓eX9_take_100, ↓cpX9_takeAmount, ↓eX9_takeAmount_0, ↓eX9_takeAmount_1, ↓eX9_takeAmount_2, ↓eX9_takeAmount_5, ↓eX9_takeAmount_8, ↓eX9_takeAmount_9, ↓eX9_takeAmount_12, ↓eX9_takeAmount_13, ↓eX9_takeAmount_16, ↓eX9_takeAmount_17, ↓eX9_takeAmount_20, ↓eX9_takeAmount_21, ↓eX9_takeAmount_24, ↓eX9_takeAmount_25, ↓eX9_takeAmount_28, ↓eX9_takeAmount_31, ↓eX9_takeAmount_34, ↓eX9_takeAmount_35, ↓eX9_takeAmount_36, ↓eX9_takeAmount_39, ↓eX9_takeAmount_42, ↓eX9_takeAmount_43, ↓eX9_takeAmount_44, ↓eX9_takeAmount_47, hk18 h, hk16 h, f3, f2, v1, hb, q1, q2, q3', Int.cast_ofNat_Int, kd_si, gr_si, ln_si, gi_same, gi_na, gi_ni, nl_i, nl_r, nl_j, nj_i, nj_l, nj_r, true_and, and_true, and_self, cs_0, cs_1, cs_2, cs_3, cs_4, ↓reduceIte, Nat.reduceLeDiff, Nat.reduceEqDiff, Nat.reduceAdd, Int.reduceLE, Int.reduceLT, Int.reduceEq, Int.reduceAdd, Int.reduceNeg, Int.reduceToNat, Int.toNat_natCast, ne_eq, not_false_eq_true, not_true_eq_false, or_true, true_or, or_false, false_or]
          exact ff
    · have ff := fin (si (si M 18 7 v) 18 3 2) wp (by rw [if_neg (fun w => q1 w.1)]) (YF_si (a18 3 (by decide)) (YF_si (a18 7 (by decide)) YF_refl)) (by simp only [Int.cast_ofNat_Int, kd_si, gr_si, ln_si, gi_same, gi_na, gi_ni, nl_i, nl_r, nl_j, nj_i, nj_l, nj_r, true_and, and_true, and_self, cs_0, cs_1, cs_2, cs_3, cs_4, ↓reduceIte, Nat.reduceLeDiff, Nat.reduceEqDiff, Nat.reduceAdd, Int.reduceLE, Int.reduceLT, Int.reduceEq, Int.reduceAdd, Int.reduceNeg, Int.reduceToNat, Int.toNat_natCast, ne_eq, not_false_eq_true, not_true_eq_false, or_true, true_or, or_false, false_or, f0, f1, f2, f4, f5, f6])
      simp only [↓cpX9_take, ↓eX9_take_0, ↓eX9_take_1, ↓eX9_take_4, ↓eX9_take_40, ↓eX9_take_41, ↓eX9_take_42, ↓eX9_take_45, ↓eX9_take_46, ↓eX9_take_47, ↓eX9_take_50, ↓eX9_take_52, ↓eX9_take_55, ↓eX9_take_56, ↓eX9_take_59, ↓eX9_take_60, ↓eX9_take_63, ↓eX9_take_66, ↓eX9_take_67, ↓eX9_take_68, ↓eX9_take_71, ↓eX9_take_74, ↓eX9_take_75, ↓eX9_take_76, ↓eX9_take_79, ↓eX9_take_82, ↓eX9_take_83, ↓eX9_take_84, ↓eX9_take_85, ↓eX9_take_88, ↓eX9_take_91, ↓eX9_take_92, ↓eX9_take_93, ↓eX9_take_96, ↓eX9_take_97, ↓eX9_take_100, ↓cpX9_takeAmount, ↓eX9_takeAmount_0, ↓eX9_takeAmount_1, ↓eX9_takeAmount_2, ↓eX9_takeAmount_5, ↓eX9_takeAmount_8, ↓eX9_takeAmount_9, ↓eX9_takeAmount_12, ↓eX9_takeAmount_13, ↓eX9_takeAmount_16, ↓eX9_takeAmount_17, ↓eX9_takeAmount_20, ↓eX9_takeAmount_21, ↓eX9_takeAmount_24, ↓eX9_takeAmount_25, ↓eX9_takeAmount_28, ↓eX9_takeAmount_31, ↓eX9_takeAmount_34, ↓eX9_takeAmount_35, ↓eX9_takeAmount_36, ↓eX9_takeAmount_39, ↓eX9_takeAmount_42, ↓eX9_takeAmount_43, ↓eX9_takeAmount_44, ↓eX9_takeAmount_47, hk18 h, hk16 h, f3, f2, v1, hb, q1, Int.cast_ofNat_Int, kd_si, gr_si, ln_si, gi_same, gi_na, gi_ni, nl_i, nl_r, nl_j, nj_i, nj_l, nj_r, true_and, and_true, and_self, cs_0, cs_1, cs_2, cs_3, cs_4, ↓reduceIte, Nat.reduceLeDiff, Nat.reduceEqDiff, Nat.reduceAdd, Int.reduceLE, Int.reduceLT, Int.reduceEq, Int.reduceAdd, Int.reduceNeg, Int.reduceToNat, Int.toNat_natCast, ne_eq, not_false_eq_true, not_true_eq_false, or_true, true_or, or_false, false_or]
      exact ff
  by_cases z2 : st = 2
  · subst z2
    have e : nxt (2, dp, cm, am, wp, nt, R, me, mt, bs, A, O, ck, L, w, V) k v b = (3, dp, cm, am, wp, nt + 1, R, me, mt, bs, A, O, ck, L, w, V) := rfl
    have y : YF f18 M (si M 18 3 3) := YF_si (a18 3 (by decide)) YF_refl
    have := hQ _ (rd18 y) (by
      rw [e]
      refine ⟨?_, RU_18 hu y hRU, ?_⟩
      · simp only [Int.cast_ofNat_Int, kd_si, gr_si, ln_si, gi_same, gi_na, gi_ni, nl_i, nl_r, nl_j, nj_i, nj_l, nj_r, true_and, and_true, and_self, cs_0, cs_1, cs_2, cs_3, cs_4, ↓reduceIte, Nat.reduceLeDiff, Nat.reduceEqDiff, Nat.reduceAdd, Int.reduceLE, Int.reduceLT, Int.reduceEq, Int.reduceAdd, Int.reduceNeg, Int.reduceToNat, Int.toNat_natCast, ne_eq, not_false_eq_true, not_true_eq_false, or_true, true_or, or_false, false_or, f0, f1, f2, f4, f5, f6, f7', fu, u18, implies_true]
      · rw [rst_18 hu y]; exact CS_18 hu y (by omega) hCS)
    simp only [↓cpX9_take, ↓eX9_take_0, ↓eX9_take_1, ↓eX9_take_4, ↓eX9_take_40, ↓eX9_take_41, ↓eX9_take_42, ↓eX9_take_45, ↓eX9_take_46, ↓eX9_take_47, ↓eX9_take_50, ↓eX9_take_52, ↓eX9_take_55, ↓eX9_take_56, ↓eX9_take_59, ↓eX9_take_60, ↓eX9_take_63, ↓eX9_take_66, ↓eX9_take_67, ↓eX9_take_68, ↓eX9_take_71, ↓eX9_take_74, ↓eX9_take_75, ↓eX9_take_76, ↓eX9_take_79, ↓eX9_take_82, ↓eX9_take_83, ↓eX9_take_84, ↓eX9_take_85, ↓eX9_take_88, ↓eX9_take_91, ↓eX9_take_92, ↓eX9_take_93, ↓eX9_take_96, ↓eX9_take_97, ↓eX9_take_100, hk18 h, hk16 h, f3, Int.cast_ofNat_Int, kd_si, gr_si, ln_si, gi_same, gi_na, gi_ni, nl_i, nl_r, nl_j, nj_i, nj_l, nj_r, true_and, and_true, and_self, cs_0, cs_1, cs_2, cs_3, cs_4, ↓reduceIte, Nat.reduceLeDiff, Nat.reduceEqDiff, Nat.reduceAdd, Int.reduceLE, Int.reduceLT, Int.reduceEq, Int.reduceAdd, Int.reduceNeg, Int.reduceToNat, Int.toNat_natCast, ne_eq, not_false_eq_true, not_true_eq_false, or_true, true_or, or_false, false_or]
    exact this
  have hel := full_el (bs := bs) h6 h8
  have hrl := fun e => rest_nops (L := L) (a := A e) (o := O e) h8 h5 e
  have hlw := (okw_len w dp h6).1
  have hW23 : (w ++ (cmW cm ck ++ bW bs)).length ≤ 23 := by
    rw [List.length_append]
    have := (hrl (fun _ => 0)).2.1
    omega
  by_cases z3 : st = 3 ∨ st = 4
  · have f3' : gi M 18 3 = 3 ∨ gi M 18 3 = 4 := by rw [f3]; omega
    by_cases q : k = 20
    · have d6 : dp < 6 := by unfold much at m; omega
      have e : nxt (st, dp, cm, am, wp, nt, R, me, mt, bs, A, O, ck, L, w, V) k v b = (4, dp + 1, cm, am, wp, nt + 1, R, me, mt, bs, A, O, ck, L, 20 :: w, V) := by
        unfold nxt
        simp only
        rw [if_neg z0, if_neg z1, if_neg z2, if_pos z3, if_pos q]
      rw [e] at hQ
      obtain ⟨c, hc⟩ : ∃ c, (w ++ (cmW cm ck ++ bW bs)).length = c := ⟨_, rfl⟩
      have c23 : c < 23 := by
        rw [← hc, List.length_append]
        have := (hrl (fun _ => 0)).2.1
        omega
      have g8 : gi M 18 8 = c := by rw [hCS.1, hc]
      have fp := fun (Q : mV → mM → Prop) => x_putOff (d := d + 1) (M := M) (Q := Q) (k := 20) h g8 c23
      have w5 : wr ((dp : Int) + 1) = ((dp + 1 : Nat) : Int) := by rw [wr_id (by omega) (by omega)]; omega
      obtain ⟨N, hN⟩ : ∃ N, N = si (si (si (si M 19 c 20) 18 8 (c + 1 : Nat)) 18 5 (dp + 1 : Nat)) 18 3 4 := ⟨_, rfl⟩
      have yN : YF (rdS u) M N := by rw [hN]; exact YF_si (Or.inl rfl) (YF_si (Or.inl rfl) (YF_si (Or.inl rfl) (YF_si (Or.inr (Or.inl rfl)) YF_refl)))
      have oth : ∀ a i, a ≠ 18 → a ≠ 19 → gi N a i = gi M a i := fun a i ha hb => by rw [hN, gi_na ha, gi_na ha, gi_na ha, gi_na hb]
      have := hQ N yN (by
        have o2 : ∀ i, gi N (u + 2) i = gi M (u + 2) i := fun i => oth _ i (by omega) (by omega)
        refine ⟨?_, RU_f o2 (fun i => oth _ i (by omega) (by omega)) (fun i _ => oth _ i (by omega) (by omega)) hRU, ?_⟩
        · rw [oth u 0 u18 (by omega), hN]
          simp only [Int.cast_ofNat_Int, kd_si, gr_si, ln_si, gi_same, gi_na, gi_ni, nl_i, nl_r, nl_j, nj_i, nj_l, nj_r, true_and, and_true, and_self, cs_0, cs_1, cs_2, cs_3, cs_4, ↓reduceIte, Nat.reduceLeDiff, Nat.reduceEqDiff, Nat.reduceAdd, Int.reduceLE, Int.reduceLT, Int.reduceEq, Int.reduceAdd, Int.reduceNeg, Int.reduceToNat, Int.toNat_natCast, ne_eq, not_false_eq_true, not_true_eq_false, or_true, true_or, or_false, false_or, f0, f1, f2, f4, f5, f6, f7', fu, implies_true]
        · rw [rst_f o2]
          obtain ⟨a1, a2, cl, a3, a4, a5, a6, a7⟩ := hCS
          refine ⟨?_, ⟨?_, ?_⟩, cl, by rw [oth u 1 u18 (by omega)]; exact a3, a4, ?_, gd_eq (fun j _ => oth _ _ (by omega) (by omega)) a6, fun e => by rw [rn_eq _ (fun j _ => oth _ _ (by omega) (by omega)) e]; exact a7 e⟩
          · rw [List.cons_append, List.length_cons, hc, hN]; simp only [Int.cast_ofNat_Int, kd_si, gr_si, ln_si, gi_same, gi_na, gi_ni, nl_i, nl_r, nl_j, nj_i, nj_l, nj_r, true_and, and_true, and_self, cs_0, cs_1, cs_2, cs_3, cs_4, ↓reduceIte, Nat.reduceLeDiff, Nat.reduceEqDiff, Nat.reduceAdd, Int.reduceLE, Int.reduceLT, Int.reduceEq, Int.reduceAdd, Int.reduceNeg, Int.reduceToNat, Int.toNat_natCast, ne_eq, not_false_eq_true, not_true_eq_false, or_true, true_or, or_false, false_or]
          · show gi N 19 (w ++ (cmW cm ck ++ bW bs)).length = 20
            rw [hc, hN]; simp only [Int.cast_ofNat_Int, kd_si, gr_si, ln_si, gi_same, gi_na, gi_ni, nl_i, nl_r, nl_j, nj_i, nj_l, nj_r, true_and, and_true, and_self, cs_0, cs_1, cs_2, cs_3, cs_4, ↓reduceIte, Nat.reduceLeDiff, Nat.reduceEqDiff, Nat.reduceAdd, Int.reduceLE, Int.reduceLT, Int.reduceEq, Int.reduceAdd, Int.reduceNeg, Int.reduceToNat, Int.toNat_natCast, ne_eq, not_false_eq_true, not_true_eq_false, or_true, true_or, or_false, false_or]
          · refine stk_eq _ (fun j hj => ?_) a2
            have hj' : j < (w ++ (cmW cm ck ++ bW bs)).length := hj
            rw [hc] at hj'
            rw [hN]
            simp only [Int.cast_ofNat_Int, kd_si, gr_si, ln_si, gi_same, gi_na, gi_ni, nl_i, nl_r, nl_j, nj_i, nj_l, nj_r, true_and, and_true, and_self, cs_0, cs_1, cs_2, cs_3, cs_4, ↓reduceIte, Nat.reduceLeDiff, Nat.reduceEqDiff, Nat.reduceAdd, Int.reduceLE, Int.reduceLT, Int.reduceEq, Int.reduceAdd, Int.reduceNeg, Int.reduceToNat, Int.toNat_natCast, ne_eq, not_false_eq_true, not_true_eq_false, or_true, true_or, or_false, false_or, show ¬ j = c by omega]
          · rw [List.cons_append, List.length_cons]
            omega)
      rw [hN] at this
      rcases f3' with f3' | f3'
      · simp only [↓cpX9_take, ↓eX9_take_0, ↓eX9_take_1, ↓eX9_take_4, ↓eX9_take_40, ↓eX9_take_41, ↓eX9_take_42, ↓eX9_take_45, ↓eX9_take_46, ↓eX9_take_47, ↓eX9_take_50, ↓eX9_take_52, ↓eX9_take_55, ↓eX9_take_56, ↓eX9_take_59, ↓eX9_take_60, ↓eX9_take_63, ↓eX9_take_66, ↓eX9_take_67, ↓eX9_take_68, ↓eX9_take_71, ↓eX9_take_74, ↓eX9_take_75, ↓eX9_take_76, ↓eX9_take_79, ↓eX9_take_82, ↓eX9_take_83, ↓eX9_take_84, ↓eX9_take_85, ↓eX9_take_88, ↓eX9_take_91, ↓eX9_take_92, ↓eX9_take_93, ↓eX9_take_96, ↓eX9_take_97, ↓eX9_take_100, ↓cpX9_takeOperand, ↓eX9_takeOperand_0, ↓eX9_takeOperand_1, ↓eX9_takeOperand_4, ↓eX9_takeOperand_6, ↓eX9_takeOperand_9, ↓eX9_takeOperand_10, ↓eX9_takeOperand_12, ↓eX9_takeOperand_15, ↓eX9_takeOperand_16, ↓eX9_takeOperand_17, ↓eX9_takeOperand_20, ↓eX9_takeOperand_21, ↓eX9_takeOperand_22, ↓eX9_takeOperand_25, ↓eX9_takeOperand_26, ↓eX9_takeOperand_27, ↓eX9_takeOperand_30, ↓eX9_takeOperand_31, ↓eX9_takeOperand_32, ↓eX9_takeOperand_33, ↓eX9_takeOperand_36, ↓eX9_takeOperand_37, ↓eX9_takeOperand_40, ↓eX9_takeOperand_41, ↓eX9_takeOperand_44, ↓eX9_takeOperand_47, ↓eX9_takeOperand_48, ↓eX9_takeOperand_51, ↓eX9_takeOperand_52, ↓eX9_takeOperand_55, ↓eX9_takeOperand_56, ↓eX9_takeOperand_57, ↓eX9_takeOperand_60, ↓eX9_takeOperand_62, ↓eX9_takeOperand_65, ↓eX9_takeOperand_66, ↓eX9_takeOperand_69, ↓eX9_takeOperand_71, ↓eX9_takeOperand_74, ↓eX9_takeOperand_75, ↓eX9_takeOperand_78, ↓eX9_takeOperand_80, ↓eX9_takeOperand_83, hk18 h, hk16 h, f3', hk, q, ↓fp, f5, w5, Int.cast_ofNat_Int, kd_si, gr_si, ln_si, gi_same, gi_na, gi_ni, nl_i, nl_r, nl_j, nj_i, nj_l, nj_r, true_and, and_true, and_self, cs_0, cs_1, cs_2, cs_3, cs_4, ↓reduceIte, Nat.reduceLeDiff, Nat.reduceEqDiff, Nat.reduceAdd, Int.reduceLE, Int.reduceLT, Int.reduceEq, Int.reduceAdd, Int.reduceNeg, Int.reduceToNat, Int.toNat_natCast, ne_eq, not_false_eq_true, not_true_eq_false, or_true, true_or, or_false, false_or]
        exact this
      · simp only [↓cpX9_take, ↓eX9_take_0, ↓eX9_take_1, ↓eX9_take_4, ↓eX9_take_40, ↓eX9_take_41, ↓eX9_take_42, ↓eX9_take_45, ↓eX9_take_46, ↓eX9_take_47, ↓eX9_take_50, ↓eX9_take_52, ↓eX9_take_55, ↓eX9_take_56, ↓eX9_take_59, ↓eX9_take_60, ↓eX9_take_63, ↓eX9_take_66, ↓eX9_take_67, ↓eX9_take_68, ↓eX9_take_71, ↓eX9_take_74, ↓eX9_take_75, ↓eX9_take_76, ↓eX9_take_79, ↓eX9_take_82, ↓eX9_take_83, ↓eX9_take_84, ↓eX9_take_85, ↓eX9_take_88, ↓eX9_take_91, ↓eX9_take_92, ↓eX9_take_93, ↓eX9_take_96, ↓eX9_take_97, ↓eX9_take_100, ↓cpX9_takeOperand, ↓eX9_takeOperand_0, ↓eX9_takeOperand_1, ↓eX9_takeOperand_4, ↓eX9_takeOperand_6, ↓eX9_takeOperand_9, ↓eX9_takeOperand_10, ↓eX9_takeOperand_12, ↓eX9_takeOperand_15, ↓eX9_takeOperand_16, ↓eX9_takeOperand_17, ↓eX9_takeOperand_20, ↓eX9_takeOperand_21, ↓eX9_takeOperand_22, ↓eX9_takeOperand_25, ↓eX9_takeOperand_26, ↓eX9_takeOperand_27, ↓eX9_takeOperand_30, ↓eX9_takeOperand_31, ↓eX9_takeOperand_32, ↓eX9_takeOperand_33, ↓eX9_takeOperand_36, ↓eX9_takeOperand_37, ↓eX9_takeOperand_40, ↓eX9_takeOperand_41, ↓eX9_takeOperand_44, ↓eX9_takeOperand_47, ↓eX9_takeOperand_48, ↓eX9_takeOperand_51, ↓eX9_takeOperand_52, ↓eX9_takeOperand_55, ↓eX9_takeOperand_56, ↓eX9_takeOperand_57, ↓eX9_takeOperand_60, ↓eX9_takeOperand_62, ↓eX9_takeOperand_65, ↓eX9_takeOperand_66, ↓eX9_takeOperand_69, ↓eX9_takeOperand_71, ↓eX9_takeOperand_74, ↓eX9_takeOperand_75, ↓eX9_takeOperand_78, ↓eX9_takeOperand_80, ↓eX9_takeOperand_83, hk18 h, hk16 h, f3', hk, q, ↓fp, f5, w5, Int.cast_ofNat_Int, kd_si, gr_si, ln_si, gi_same, gi_na, gi_ni, nl_i, nl_r, nl_j, nj_i, nj_l, nj_r, true_and, and_true, and_self, cs_0, cs_1, cs_2, cs_3, cs_4, ↓reduceIte, Nat.reduceLeDiff, Nat.reduceEqDiff, Nat.reduceAdd, Int.reduceLE, Int.reduceLT, Int.reduceEq, Int.reduceAdd, Int.reduceNeg, Int.reduceToNat, Int.toNat_natCast, ne_eq, not_false_eq_true, not_true_eq_false, or_true, true_or, or_false, false_or]
        exact this
    · have e : ∀ x : Nat, x = (if k = 9 ∨ k = 10 then 5 else 6) → nxt (st, dp, cm, am, wp, nt, R, me, mt, bs, A, O, ck, L, w, V) k v b = (x, dp, cm, am, wp, nt + 1, R, me, mt, bs, A, O, ck, L, w, fun e => opv k v e :: V e) := fun x hx => by
        unfold nxt
        simp only
        rw [if_neg z0, if_neg z1, if_neg z2, if_pos z3, if_neg q, hx]
      have kr : k = 1 ∨ (2 ≤ k ∧ k ≤ 10) := by unfold goes bo fl3 fo at g; omega
      have hCS' := hCS
      obtain ⟨a1, a2, cl, a3, a4, a5, a6, a7⟩ := hCS'
      have fin : ∀ (xw : Int) (x : Nat), x = (if k = 9 ∨ k = 10 then 5 else 6) → (xw = if k = 1 then v else -k) → Q vj (si (si (si M (u + 1) cl xw) u 1 (cl + 1 : Nat)) 18 3 x) := fun xw x hx hxw => by
        have xr : -11 < xw ∧ -10 ≤ xw ∧ xw ≠ -1 := by
          rcases kr with z | z
          · rw [if_pos z] at hxw; have := (hv z).2; omega
          · rw [if_neg (by omega)] at hxw; omega
        have cw := CS_write (u := u) (M := M) (s := rst u M R) (n := nt + 1) (x := xw) (cl := cl) hu a1 a2 a3 a4 (by omega) a6 a7 (fun e => ⟨fun z => by omega, fun _ => ⟨xr.2, by
          rw [List.length_append, h7 e, if_neg (by omega), (hrl e).1, (hrl e).2.2]
          have : nops w ≤ w.length := nops_le w
          have := (hrl e).2.1
          omega⟩⟩)
        obtain ⟨N, hN⟩ : ∃ N, N = si (si (si M (u + 1) cl xw) u 1 (cl + 1 : Nat)) 18 3 x := ⟨_, rfl⟩
        rw [← hN]
        have yN : YF (rdS u) M N := by rw [hN]; exact YF_si (Or.inl rfl) (YF_si (Or.inr (Or.inr (Or.inl rfl))) (YF_si (Or.inr (Or.inr (Or.inr ⟨by omega, by omega⟩))) YF_refl))
        have o2 : ∀ i, gi N (u + 2) i = gi M (u + 2) i := fun i => by rw [hN, gi_na (by omega), gi_na (by omega), gi_na (by omega)]
        refine hQ N yN ?_
        rw [e x hx]
        have o18 : ∀ i, i ≠ 3 → gi N 18 i = gi M 18 i := fun i hi => by rw [hN, gi_ni hi, gi_na (by omega), gi_na (by omega)]
        refine ⟨⟨?_, ?_, ?_, ?_, ?_, ?_, ?_, ?_, ?_⟩, RU_f o2 (fun i => by rw [hN, gi_na (by omega), gi_na (by omega), gi_na (by omega)]) (fun i hi => by rw [hN, gi_na (by omega), gi_na (by omega), gi_ni (by omega)]) hRU, ?_⟩
        · rw [o18 0 (by decide)]; exact f0
        · rw [o18 1 (by decide)]; exact f1
        · rw [o18 2 (by decide)]; exact f2
        · rw [hN, gi_same]
        · rw [o18 4 (by decide)]; exact f4
        · rw [o18 5 (by decide)]; exact f5
        · rw [o18 6 (by decide)]; exact f6
        · intro _; rw [o18 7 (by decide)]; exact f7'
        · rw [hN, gi_na u18, gi_ni (by decide), gi_na (by omega)]; exact fu
        · rw [rst_f o2]
          have y18 : YF f18 (si (si M (u + 1) cl xw) u 1 (cl + 1 : Nat)) N := by rw [hN]; exact YF_si (a18 3 (by decide)) YF_refl
          have := CS_18 hu y18 (Nat.le_refl _) cw
          have ee : (fun e => stp e xw (V e ++ (cmV cm L e ++ bV bs (A e) (O e)))) = fun e => (opv k v e :: V e) ++ (cmV cm L e ++ bV bs (A e) (O e)) := by
            funext e
            unfold stp opv
            rw [if_neg (by omega), List.cons_append]
            rcases kr with z | z
            · rw [if_pos z] at hxw ⊢
              have := (hv z).2
              rw [if_pos (by omega), hxw]
            · rw [if_neg (by omega)] at hxw ⊢
              rw [if_neg (by omega), hxw, Int.neg_neg]
          rw [ee] at this
          exact this
      rcases kr with z | z
      · have k20 : (k = 20) = False := eq_false q
        have fw := fun (Q : mV → mM → Prop) (x : Int) => x_write (d := d + 1) (M := M) (Q := Q) (x := x) h hu a3 (by omega)
        have := fin v 6 (by rw [if_neg (by omega)]) (by rw [if_pos z])
        obtain ⟨v1, v2⟩ := hv z
        have oth : ∀ x, gi (si (si M (u + 1) cl x) u 1 (cl + 1 : Nat)) 16 1 = 1 := fun x => by rw [gi_na (by omega), gi_na (by omega), hk]; exact z
        rcases f3' with f3' | f3'
        · simp only [↓cpX9_take, ↓eX9_take_0, ↓eX9_take_1, ↓eX9_take_4, ↓eX9_take_40, ↓eX9_take_41, ↓eX9_take_42, ↓eX9_take_45, ↓eX9_take_46, ↓eX9_take_47, ↓eX9_take_50, ↓eX9_take_52, ↓eX9_take_55, ↓eX9_take_56, ↓eX9_take_59, ↓eX9_take_60, ↓eX9_take_63, ↓eX9_take_66, ↓eX9_take_67, ↓eX9_take_68, ↓eX9_take_71, ↓eX9_take_74, ↓eX9_take_75, ↓eX9_take_76, ↓eX9_take_79, ↓eX9_take_82, ↓eX9_take_83, ↓eX9_take_84, ↓eX9_take_85, ↓eX9_take_88, ↓eX9_take_91, ↓eX9_take_92, ↓eX9_take_93, ↓eX9_take_96, ↓eX9_take_97, ↓eX9_take_100, ↓cpX9_takeOperand, ↓eX9_takeOperand_0, ↓eX9_takeOperand_1, ↓eX9_takeOperand_4, ↓eX9_takeOperand_6, ↓eX9_takeOperand_9, ↓eX9_takeOperand_10, ↓eX9_takeOperand_12, ↓eX9_takeOperand_15, ↓eX9_takeOperand_16, ↓eX9_takeOperand_17, ↓eX9_takeOperand_20, ↓eX9_takeOperand_21, ↓eX9_takeOperand_22, ↓eX9_takeOperand_25, ↓eX9_takeOperand_26, ↓eX9_takeOperand_27, ↓eX9_takeOperand_30, ↓eX9_takeOperand_31, ↓eX9_takeOperand_32, ↓eX9_takeOperand_33, ↓eX9_takeOperand_36, ↓eX9_takeOperand_37, ↓eX9_takeOperand_40, ↓eX9_takeOperand_41, ↓eX9_takeOperand_44, ↓eX9_takeOperand_47, ↓eX9_takeOperand_48, ↓eX9_takeOperand_51, ↓eX9_takeOperand_52, ↓eX9_takeOperand_55, ↓eX9_takeOperand_56, ↓eX9_takeOperand_57, ↓eX9_takeOperand_60, ↓eX9_takeOperand_62, ↓eX9_takeOperand_65, ↓eX9_takeOperand_66, ↓eX9_takeOperand_69, ↓eX9_takeOperand_71, ↓eX9_takeOperand_74, ↓eX9_takeOperand_75, ↓eX9_takeOperand_78, ↓eX9_takeOperand_80, ↓eX9_takeOperand_83, hk18 h, hk16 h, f3', hk, z, v1, ↓fw, ku, oth, Int.cast_ofNat_Int, kd_si, gr_si, ln_si, gi_same, gi_na, gi_ni, nl_i, nl_r, nl_j, nj_i, nj_l, nj_r, true_and, and_true, and_self, cs_0, cs_1, cs_2, cs_3, cs_4, ↓reduceIte, Nat.reduceLeDiff, Nat.reduceEqDiff, Nat.reduceAdd, Int.reduceLE, Int.reduceLT, Int.reduceEq, Int.reduceAdd, Int.reduceNeg, Int.reduceToNat, Int.toNat_natCast, ne_eq, not_false_eq_true, not_true_eq_false, or_true, true_or, or_false, false_or]
          exact this
        · simp only [↓cpX9_take, ↓eX9_take_0, ↓eX9_take_1, ↓eX9_take_4, ↓eX9_take_40, ↓eX9_take_41, ↓eX9_take_42, ↓eX9_take_45, ↓eX9_take_46, ↓eX9_take_47, ↓eX9_take_50, ↓eX9_take_52, ↓eX9_take_55, ↓eX9_take_56, ↓eX9_take_59, ↓eX9_take_60, ↓eX9_take_63, ↓eX9_take_66, ↓eX9_take_67, ↓eX9_take_68, ↓eX9_take_71, ↓eX9_take_74, ↓eX9_take_75, ↓eX9_take_76, ↓eX9_take_79, ↓eX9_take_82, ↓eX9_take_83, ↓eX9_take_84, ↓eX9_take_85, ↓eX9_take_88, ↓eX9_take_91, ↓eX9_take_92, ↓eX9_take_93, ↓eX9_take_96, ↓eX9_take_97, ↓eX9_take_100, ↓cpX9_takeOperand, ↓eX9_takeOperand_0, ↓eX9_takeOperand_1, ↓eX9_takeOperand_4, ↓eX9_takeOperand_6, ↓eX9_takeOperand_9, ↓eX9_takeOperand_10, ↓eX9_takeOperand_12, ↓eX9_takeOperand_15, ↓eX9_takeOperand_16, ↓eX9_takeOperand_17, ↓eX9_takeOperand_20, ↓eX9_takeOperand_21, ↓eX9_takeOperand_22, ↓eX9_takeOperand_25, ↓eX9_takeOperand_26, ↓eX9_takeOperand_27, ↓eX9_takeOperand_30, ↓eX9_takeOperand_31, ↓eX9_takeOperand_32, ↓eX9_takeOperand_33, ↓eX9_takeOperand_36, ↓eX9_takeOperand_37, ↓eX9_takeOperand_40, ↓eX9_takeOperand_41, ↓eX9_takeOperand_44, ↓eX9_takeOperand_47, ↓eX9_takeOperand_48, ↓eX9_takeOperand_51, ↓eX9_takeOperand_52, ↓eX9_takeOperand_55, ↓eX9_takeOperand_56, ↓eX9_takeOperand_57, ↓eX9_takeOperand_60, ↓eX9_takeOperand_62, ↓eX9_takeOperand_65, ↓eX9_takeOperand_66, ↓eX9_takeOperand_69, ↓eX9_takeOperand_71, ↓eX9_takeOperand_74, ↓eX9_takeOperand_75, ↓eX9_takeOperand_78, ↓eX9_takeOperand_80, ↓eX9_takeOperand_83, hk18 h, hk16 h, f3', hk, z, v1, ↓fw, ku, oth, Int.cast_ofNat_Int, kd_si, gr_si, ln_si, gi_same, gi_na, gi_ni, nl_i, nl_r, nl_j, nj_i, nj_l, nj_r, true_and, and_true, and_self, cs_0, cs_1, cs_2, cs_3, cs_4, ↓reduceIte, Nat.reduceLeDiff, Nat.reduceEqDiff, Nat.reduceAdd, Int.reduceLE, Int.reduceLT, Int.reduceEq, Int.reduceAdd, Int.reduceNeg, Int.reduceToNat, Int.toNat_natCast, ne_eq, not_false_eq_true, not_true_eq_false, or_true, true_or, or_false, false_or]
          exact this
      · have k20 : (k = 20) = False := eq_false q
        have k1 : (k = 1) = False := eq_false (by omega)
        have wk : wr (-k) = -k := wr_id (by omega) (by omega)
        have fw := fun (Q : mV → mM → Prop) (x : Int) => x_write (d := d + 1) (M := M) (Q := Q) (x := x) h hu a3 (by omega)
        have oth : ∀ x, gi (si (si M (u + 1) cl x) u 1 (cl + 1 : Nat)) 16 1 = k := fun x => by rw [gi_na (by omega), gi_na (by omega)]; exact hk
        by_cases q9 : k = 9 ∨ k = 10
        · have := fin (-k) 5 (by rw [if_pos q9]) (by rw [if_neg (by omega)])
          rcases q9 with q9 | q9
          · rcases f3' with f3' | f3'
            · simp only [↓cpX9_take, ↓eX9_take_0, ↓eX9_take_1, ↓eX9_take_4, ↓eX9_take_40, ↓eX9_take_41, ↓eX9_take_42, ↓eX9_take_45, ↓eX9_take_46, ↓eX9_take_47, ↓eX9_take_50, ↓eX9_take_52, ↓eX9_take_55, ↓eX9_take_56, ↓eX9_take_59, ↓eX9_take_60, ↓eX9_take_63, ↓eX9_take_66, ↓eX9_take_67, ↓eX9_take_68, ↓eX9_take_71, ↓eX9_take_74, ↓eX9_take_75, ↓eX9_take_76, ↓eX9_take_79, ↓eX9_take_82, ↓eX9_take_83, ↓eX9_take_84, ↓eX9_take_85, ↓eX9_take_88, ↓eX9_take_91, ↓eX9_take_92, ↓eX9_take_93, ↓eX9_take_96, ↓eX9_take_97, ↓eX9_take_100, ↓cpX9_takeOperand, ↓eX9_takeOperand_0, ↓eX9_takeOperand_1, ↓eX9_takeOperand_4, ↓eX9_takeOperand_6, ↓eX9_takeOperand_9, ↓eX9_takeOperand_10, ↓eX9_takeOperand_12, ↓eX9_takeOperand_15, ↓eX9_takeOperand_16, ↓eX9_takeOperand_17, ↓eX9_takeOperand_20, ↓eX9_takeOperand_21, ↓eX9_takeOperand_22, ↓eX9_takeOperand_25, ↓eX9_takeOperand_26, ↓eX9_takeOperand_27, ↓eX9_takeOperand_30, ↓eX9_takeOperand_31, ↓eX9_takeOperand_32, ↓eX9_takeOperand_33, ↓eX9_takeOperand_36, ↓eX9_takeOperand_37, ↓eX9_takeOperand_40, ↓eX9_takeOperand_41, ↓eX9_takeOperand_44, ↓eX9_takeOperand_47, ↓eX9_takeOperand_48, ↓eX9_takeOperand_51, ↓eX9_takeOperand_52, ↓eX9_takeOperand_55, ↓eX9_takeOperand_56, ↓eX9_takeOperand_57, ↓eX9_takeOperand_60, ↓eX9_takeOperand_62, ↓eX9_takeOperand_65, ↓eX9_takeOperand_66, ↓eX9_takeOperand_69, ↓eX9_takeOperand_71, ↓eX9_takeOperand_74, ↓eX9_takeOperand_75, ↓eX9_takeOperand_78, ↓eX9_takeOperand_80, ↓eX9_takeOperand_83, hk18 h, hk16 h, f3', hk, k20, k1, wk, ↓fw, ku, oth, q9, Int.cast_ofNat_Int, kd_si, gr_si, ln_si, gi_same, gi_na, gi_ni, nl_i, nl_r, nl_j, nj_i, nj_l, nj_r, true_and, and_true, and_self, cs_0, cs_1, cs_2, cs_3, cs_4, ↓reduceIte, Nat.reduceLeDiff, Nat.reduceEqDiff, Nat.reduceAdd, Int.reduceLE, Int.reduceLT, Int.reduceEq, Int.reduceAdd, Int.reduceNeg, Int.reduceToNat, Int.toNat_natCast, ne_eq, not_false_eq_true, not_true_eq_false, or_true, true_or, or_false, false_or] at this ⊢
              exact this
            · simp only [↓cpX9_take, ↓eX9_take_0, ↓eX9_take_1, ↓eX9_take_4, ↓eX9_take_40, ↓eX9_take_41, ↓eX9_take_42, ↓eX9_take_45, ↓eX9_take_46, ↓eX9_take_47, ↓eX9_take_50, ↓eX9_take_52, ↓eX9_take_55, ↓eX9_take_56, ↓eX9_take_59, ↓eX9_take_60, ↓eX9_take_63, ↓eX9_take_66, ↓eX9_take_67, ↓eX9_take_68, ↓eX9_take_71, ↓eX9_take_74, ↓eX9_take_75, ↓eX9_take_76, ↓eX9_take_79, ↓eX9_take_82, ↓eX9_take_83, ↓eX9_take_84, ↓eX9_take_85, ↓eX9_take_88, ↓eX9_take_91, ↓eX9_take_92, ↓eX9_take_93, ↓eX9_take_96, ↓eX9_take_97, ↓eX9_take_100, ↓cpX9_takeOperand, ↓eX9_takeOperand_0, ↓eX9_takeOperand_1, ↓eX9_takeOperand_4, ↓eX9_takeOperand_6, ↓eX9_takeOperand_9, ↓eX9_takeOperand_10, ↓eX9_takeOperand_12, ↓eX9_takeOperand_15, ↓eX9_takeOperand_16, ↓eX9_takeOperand_17, ↓eX9_takeOperand_20, ↓eX9_takeOperand_21, ↓eX9_takeOperand_22, ↓eX9_takeOperand_25, ↓eX9_takeOperand_26, ↓eX9_takeOperand_27, ↓eX9_takeOperand_30, ↓eX9_takeOperand_31, ↓eX9_takeOperand_32, ↓eX9_takeOperand_33, ↓eX9_takeOperand_36, ↓eX9_takeOperand_37, ↓eX9_takeOperand_40, ↓eX9_takeOperand_41, ↓eX9_takeOperand_44, ↓eX9_takeOperand_47, ↓eX9_takeOperand_48, ↓eX9_takeOperand_51, ↓eX9_takeOperand_52, ↓eX9_takeOperand_55, ↓eX9_takeOperand_56, ↓eX9_takeOperand_57, ↓eX9_takeOperand_60, ↓eX9_takeOperand_62, ↓eX9_takeOperand_65, ↓eX9_takeOperand_66, ↓eX9_takeOperand_69, ↓eX9_takeOperand_71, ↓eX9_takeOperand_74, ↓eX9_takeOperand_75, ↓eX9_takeOperand_78, ↓eX9_takeOperand_80, ↓eX9_takeOperand_83, hk18 h, hk16 h, f3', hk, k20, k1, wk, ↓fw, ku, oth, q9, Int.cast_ofNat_Int, kd_si, gr_si, ln_si, gi_same, gi_na, gi_ni, nl_i, nl_r, nl_j, nj_i, nj_l, nj_r, true_and, and_true, and_self, cs_0, cs_1, cs_2, cs_3, cs_4, ↓reduceIte, Nat.reduceLeDiff, Nat.reduceEqDiff, Nat.reduceAdd, Int.reduceLE, Int.reduceLT, Int.reduceEq, Int.reduceAdd, Int.reduceNeg, Int.reduceToNat, Int.toNat_natCast, ne_eq, not_false_eq_true, not_true_eq_false, or_true, true_or, or_false, false_or] at this ⊢
              exact this
          · rcases f3' with f3' | f3'
            · simp only [↓cpX9_take, ↓eX9_take_0, ↓eX9_take_1, ↓eX9_take_4, ↓eX9_take_40, ↓eX9_take_41, ↓eX9_take_42, ↓eX9_take_45, ↓eX9_take_46, ↓eX9_take_47, ↓eX9_take_50, ↓eX9_take_52, ↓eX9_take_55, ↓eX9_take_56, ↓eX9_take_59, ↓eX9_take_60, ↓eX9_take_63, ↓eX9_take_66, ↓eX9_take_67, ↓eX9_take_68, ↓eX9_take_71, ↓eX9_take_74, ↓eX9_take_75, ↓eX9_take_76, ↓eX9_take_79, ↓eX9_take_82, ↓eX9_take_83, ↓eX9_take_84, ↓eX9_take_85, ↓eX9_take_88, ↓eX9_take_91, ↓eX9_take_92, ↓eX9_take_93, ↓eX9_take_96, ↓eX9_take_97, ↓eX9_take_100, ↓cpX9_takeOperand, ↓eX9_takeOperand_0, ↓eX9_takeOperand_1, ↓eX9_takeOperand_4, ↓eX9_takeOperand_6, ↓eX9_takeOperand_9, ↓eX9_takeOperand_10, ↓eX9_takeOperand_12, ↓eX9_takeOperand_15, ↓eX9_takeOperand_16, ↓eX9_takeOperand_17, ↓eX9_takeOperand_20, ↓eX9_takeOperand_21, ↓eX9_takeOperand_22, ↓eX9_takeOperand_25, ↓eX9_takeOperand_26, ↓eX9_takeOperand_27, ↓eX9_takeOperand_30, ↓eX9_takeOperand_31, ↓eX9_takeOperand_32, ↓eX9_takeOperand_33, ↓eX9_takeOperand_36, ↓eX9_takeOperand_37, ↓eX9_takeOperand_40, ↓eX9_takeOperand_41, ↓eX9_takeOperand_44, ↓eX9_takeOperand_47, ↓eX9_takeOperand_48, ↓eX9_takeOperand_51, ↓eX9_takeOperand_52, ↓eX9_takeOperand_55, ↓eX9_takeOperand_56, ↓eX9_takeOperand_57, ↓eX9_takeOperand_60, ↓eX9_takeOperand_62, ↓eX9_takeOperand_65, ↓eX9_takeOperand_66, ↓eX9_takeOperand_69, ↓eX9_takeOperand_71, ↓eX9_takeOperand_74, ↓eX9_takeOperand_75, ↓eX9_takeOperand_78, ↓eX9_takeOperand_80, ↓eX9_takeOperand_83, hk18 h, hk16 h, f3', hk, k20, k1, wk, ↓fw, ku, oth, q9, Int.cast_ofNat_Int, kd_si, gr_si, ln_si, gi_same, gi_na, gi_ni, nl_i, nl_r, nl_j, nj_i, nj_l, nj_r, true_and, and_true, and_self, cs_0, cs_1, cs_2, cs_3, cs_4, ↓reduceIte, Nat.reduceLeDiff, Nat.reduceEqDiff, Nat.reduceAdd, Int.reduceLE, Int.reduceLT, Int.reduceEq, Int.reduceAdd, Int.reduceNeg, Int.reduceToNat, Int.toNat_natCast, ne_eq, not_false_eq_true, not_true_eq_false, or_true, true_or, or_false, false_or] at this ⊢
              exact this
            · simp only [↓cpX9_take, ↓eX9_take_0, ↓eX9_take_1, ↓eX9_take_4, ↓eX9_take_40, ↓eX9_take_41, ↓eX9_take_42, ↓eX9_take_45, ↓eX9_take_46, ↓eX9_take_47, ↓eX9_take_50, ↓eX9_take_52, ↓eX9_take_55, ↓eX9_take_56, ↓eX9_take_59, ↓eX9_take_60, ↓eX9_take_63, ↓eX9_take_66, ↓eX9_take_67, ↓eX9_take_68, ↓eX9_take_71, ↓eX9_take_74, ↓eX9_take_75, ↓eX9_take_76, ↓eX9_take_79, ↓eX9_take_82, ↓eX9_take_83, ↓eX9_take_84, ↓eX9_take_85, ↓eX9_take_88, ↓eX9_take_91, ↓eX9_take_92, ↓eX9_take_93, ↓eX9_take_96, ↓eX9_take_97, ↓eX9_take_100, ↓cpX9_takeOperand, ↓eX9_takeOperand_0, ↓eX9_takeOperand_1, ↓eX9_takeOperand_4, ↓eX9_takeOperand_6, ↓eX9_takeOperand_9, ↓eX9_takeOperand_10, ↓eX9_takeOperand_12, ↓eX9_takeOperand_15, ↓eX9_takeOperand_16, ↓eX9_takeOperand_17, ↓eX9_takeOperand_20, ↓eX9_takeOperand_21, ↓eX9_takeOperand_22, ↓eX9_takeOperand_25, ↓eX9_takeOperand_26, ↓eX9_takeOperand_27, ↓eX9_takeOperand_30, ↓eX9_takeOperand_31, ↓eX9_takeOperand_32, ↓eX9_takeOperand_33, ↓eX9_takeOperand_36, ↓eX9_takeOperand_37, ↓eX9_takeOperand_40, ↓eX9_takeOperand_41, ↓eX9_takeOperand_44, ↓eX9_takeOperand_47, ↓eX9_takeOperand_48, ↓eX9_takeOperand_51, ↓eX9_takeOperand_52, ↓eX9_takeOperand_55, ↓eX9_takeOperand_56, ↓eX9_takeOperand_57, ↓eX9_takeOperand_60, ↓eX9_takeOperand_62, ↓eX9_takeOperand_65, ↓eX9_takeOperand_66, ↓eX9_takeOperand_69, ↓eX9_takeOperand_71, ↓eX9_takeOperand_74, ↓eX9_takeOperand_75, ↓eX9_takeOperand_78, ↓eX9_takeOperand_80, ↓eX9_takeOperand_83, hk18 h, hk16 h, f3', hk, k20, k1, wk, ↓fw, ku, oth, q9, Int.cast_ofNat_Int, kd_si, gr_si, ln_si, gi_same, gi_na, gi_ni, nl_i, nl_r, nl_j, nj_i, nj_l, nj_r, true_and, and_true, and_self, cs_0, cs_1, cs_2, cs_3, cs_4, ↓reduceIte, Nat.reduceLeDiff, Nat.reduceEqDiff, Nat.reduceAdd, Int.reduceLE, Int.reduceLT, Int.reduceEq, Int.reduceAdd, Int.reduceNeg, Int.reduceToNat, Int.toNat_natCast, ne_eq, not_false_eq_true, not_true_eq_false, or_true, true_or, or_false, false_or] at this ⊢
              exact this
        · have := fin (-k) 6 (by rw [if_neg q9]) (by rw [if_neg (by omega)])
          have n9 : (k = 9) = False := eq_false (fun w => q9 (Or.inl w))
          have n10 : (k = 10) = False := eq_false (fun w => q9 (Or.inr w))
          rcases f3' with f3' | f3'
          · simp only [↓cpX9_take, ↓eX9_take_0, ↓eX9_take_1, ↓eX9_take_4, ↓eX9_take_40, ↓eX9_take_41, ↓eX9_take_42, ↓eX9_take_45, ↓eX9_take_46, ↓eX9_take_47, ↓eX9_take_50, ↓eX9_take_52, ↓eX9_take_55, ↓eX9_take_56, ↓eX9_take_59, ↓eX9_take_60, ↓eX9_take_63, ↓eX9_take_66, ↓eX9_take_67, ↓eX9_take_68, ↓eX9_take_71, ↓eX9_take_74, ↓eX9_take_75, ↓eX9_take_76, ↓eX9_take_79, ↓eX9_take_82, ↓eX9_take_83, ↓eX9_take_84, ↓eX9_take_85, ↓eX9_take_88, ↓eX9_take_91, ↓eX9_take_92, ↓eX9_take_93, ↓eX9_take_96, ↓eX9_take_97, ↓eX9_take_100, ↓cpX9_takeOperand, ↓eX9_takeOperand_0, ↓eX9_takeOperand_1, ↓eX9_takeOperand_4, ↓eX9_takeOperand_6, ↓eX9_takeOperand_9, ↓eX9_takeOperand_10, ↓eX9_takeOperand_12, ↓eX9_takeOperand_15, ↓eX9_takeOperand_16, ↓eX9_takeOperand_17, ↓eX9_takeOperand_20, ↓eX9_takeOperand_21, ↓eX9_takeOperand_22, ↓eX9_takeOperand_25, ↓eX9_takeOperand_26, ↓eX9_takeOperand_27, ↓eX9_takeOperand_30, ↓eX9_takeOperand_31, ↓eX9_takeOperand_32, ↓eX9_takeOperand_33, ↓eX9_takeOperand_36, ↓eX9_takeOperand_37, ↓eX9_takeOperand_40, ↓eX9_takeOperand_41, ↓eX9_takeOperand_44, ↓eX9_takeOperand_47, ↓eX9_takeOperand_48, ↓eX9_takeOperand_51, ↓eX9_takeOperand_52, ↓eX9_takeOperand_55, ↓eX9_takeOperand_56, ↓eX9_takeOperand_57, ↓eX9_takeOperand_60, ↓eX9_takeOperand_62, ↓eX9_takeOperand_65, ↓eX9_takeOperand_66, ↓eX9_takeOperand_69, ↓eX9_takeOperand_71, ↓eX9_takeOperand_74, ↓eX9_takeOperand_75, ↓eX9_takeOperand_78, ↓eX9_takeOperand_80, ↓eX9_takeOperand_83, hk18 h, hk16 h, f3', hk, k20, k1, wk, ↓fw, ku, oth, n9, n10, Int.cast_ofNat_Int, kd_si, gr_si, ln_si, gi_same, gi_na, gi_ni, nl_i, nl_r, nl_j, nj_i, nj_l, nj_r, true_and, and_true, and_self, cs_0, cs_1, cs_2, cs_3, cs_4, ↓reduceIte, Nat.reduceLeDiff, Nat.reduceEqDiff, Nat.reduceAdd, Int.reduceLE, Int.reduceLT, Int.reduceEq, Int.reduceAdd, Int.reduceNeg, Int.reduceToNat, Int.toNat_natCast, ne_eq, not_false_eq_true, not_true_eq_false, or_true, true_or, or_false, false_or] at this ⊢
            exact this
          · simp only [↓cpX9_take, ↓eX9_take_0, ↓eX9_take_1, ↓eX9_take_4, ↓eX9_take_40, ↓eX9_take_41, ↓eX9_take_42, ↓eX9_take_45, ↓eX9_take_46, ↓eX9_take_47, ↓eX9_take_50, ↓eX9_take_52, ↓eX9_take_55, ↓eX9_take_56, ↓eX9_take_59, ↓eX9_take_60, ↓eX9_take_63, ↓eX9_take_66, ↓eX9_take_67, ↓eX9_take_68, ↓eX9_take_71, ↓eX9_take_74, ↓eX9_take_75, ↓eX9_take_76, ↓eX9_take_79, ↓eX9_take_82, ↓eX9_take_83, ↓eX9_take_84, ↓eX9_take_85, ↓eX9_take_88, ↓eX9_take_91, ↓eX9_take_92, ↓eX9_take_93, ↓eX9_take_96, ↓eX9_take_97, ↓eX9_take_100, ↓cpX9_takeOperand, ↓eX9_takeOperand_0, ↓eX9_takeOperand_1, ↓eX9_takeOperand_4, ↓eX9_takeOperand_6, ↓eX9_takeOperand_9, ↓eX9_takeOperand_10, ↓eX9_takeOperand_12, ↓eX9_takeOperand_15, ↓eX9_takeOperand_16, ↓eX9_takeOperand_17, ↓eX9_takeOperand_20, ↓eX9_takeOperand_21, ↓eX9_takeOperand_22, ↓eX9_takeOperand_25, ↓eX9_takeOperand_26, ↓eX9_takeOperand_27, ↓eX9_takeOperand_30, ↓eX9_takeOperand_31, ↓eX9_takeOperand_32, ↓eX9_takeOperand_33, ↓eX9_takeOperand_36, ↓eX9_takeOperand_37, ↓eX9_takeOperand_40, ↓eX9_takeOperand_41, ↓eX9_takeOperand_44, ↓eX9_takeOperand_47, ↓eX9_takeOperand_48, ↓eX9_takeOperand_51, ↓eX9_takeOperand_52, ↓eX9_takeOperand_55, ↓eX9_takeOperand_56, ↓eX9_takeOperand_57, ↓eX9_takeOperand_60, ↓eX9_takeOperand_62, ↓eX9_takeOperand_65, ↓eX9_takeOperand_66, ↓eX9_takeOperand_69, ↓eX9_takeOperand_71, ↓eX9_takeOperand_74, ↓eX9_takeOperand_75, ↓eX9_takeOperand_78, ↓eX9_takeOperand_80, ↓eX9_takeOperand_83, hk18 h, hk16 h, f3', hk, k20, k1, wk, ↓fw, ku, oth, n9, n10, Int.cast_ofNat_Int, kd_si, gr_si, ln_si, gi_same, gi_na, gi_ni, nl_i, nl_r, nl_j, nj_i, nj_l, nj_r, true_and, and_true, and_self, cs_0, cs_1, cs_2, cs_3, cs_4, ↓reduceIte, Nat.reduceLeDiff, Nat.reduceEqDiff, Nat.reduceAdd, Int.reduceLE, Int.reduceLT, Int.reduceEq, Int.reduceAdd, Int.reduceNeg, Int.reduceToNat, Int.toNat_natCast, ne_eq, not_false_eq_true, not_true_eq_false, or_true, true_or, or_false, false_or] at this ⊢
            exact this
  exact absurd hst4 (by omega)
end TAKE
