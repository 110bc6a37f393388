/-! ===== the reading of tokens, as a machine over values ===== -/
abbrev Env := Nat → Int
def or2 (a b : Int) : Int := (Int32.ofInt a ||| Int32.ofInt b).toInt
def and2 (a b : Int) : Int := (Int32.ofInt a &&& Int32.ofInt b).toInt
def jn (k a b : Int) : Int := if k = 11 then or2 a b else if k = 12 then and2 a b else if k = 13 then (if a = b then 1 else 0) else if k = 14 then (if a = b then 0 else 1) else if k = 15 then (if a < b then 1 else 0) else if k = 16 then (if a ≤ b then 1 else 0) else if k = 17 then wr (a + b) else if k = 18 then wr (a - b) else wr (a * b)
def ap (k : Int) : List Int → List Int
  | b :: a :: r => jn k a b :: r
  | _ => []
/-- what waits is taken out, down to an opening sign -/
def popW : List Int → List Int
  | [] => []
  | k :: w => if k = 20 then k :: w else popW w
def popV : List Int → List Int → List Int
  | [], v => v
  | k :: w, v => if k = 20 then v else popV w (ap k v)
/-- what waits is taken out while it is times -/
def potW : List Int → List Int
  | [] => []
  | k :: w => if k = 19 then potW w else k :: w
def potV : List Int → List Int → List Int
  | [], v => v
  | k :: w, v => if k = 19 then potV w (ap k v) else v
/-- st dp cm am wp nt R me mt bs A O ck L w V -/
abbrev PS := Nat × Nat × Bool × Int × Int × Nat × Nat × (Nat → Env → Int) × (Nat → Int) × Nat × (Env → Int) × (Env → Int) × Int × (Env → Int) × List Int × (Env → List Int)
def ps0s : PS := (0, 0, false, 0, -1, 0, 0, fun _ _ => 0, fun _ => 0, 0, fun _ => 0, fun _ => 0, 0, fun _ => 0, [], fun _ => [])
abbrev bo (k : Int) : Prop := k = 1 ∨ k = 20 ∨ (2 ≤ k ∧ k ≤ 8)
abbrev fl3 (k : Int) : Prop := k = 12 ∨ k = 11 ∨ k = 22
abbrev fo (dp : Nat) (cm : Bool) (k : Int) : Prop := (17 ≤ k ∧ k ≤ 19) ∨ (0 < dp ∧ k = 21) ∨ (dp = 0 ∧ cm = true ∧ fl3 k) ∨ (dp = 0 ∧ cm = false ∧ 13 ≤ k ∧ k ≤ 16)
/-- the token may stand here -/
abbrev goes (st dp : Nat) (cm : Bool) (k : Int) : Prop := (st = 0 ∧ (k = 23 ∨ k = 24)) ∨ (st = 1 ∧ k = 1) ∨ (st = 2 ∧ k = 25) ∨ (st = 3 ∧ (k = 9 ∨ k = 10 ∨ bo k)) ∨ (st = 4 ∧ bo k) ∨ (st = 5 ∧ fl3 k) ∨ (st = 6 ∧ fo dp cm k)
abbrev much (st dp nt R : Nat) (k : Int) : Prop := 400 ≤ nt ∨ (st = 0 ∧ 20 ≤ R) ∨ (k = 20 ∧ 6 ≤ dp)
def flt : PS → Int → Int
  | (st, dp, cm, _, _, nt, R, _), k => if ¬ goes st dp cm k then 1 else if much st dp nt R k then 2 else 0
/-- the value of the literal that ends -/
def lit (cm : Bool) (ck : Int) (L : Env → Int) (w : List Int) (V : Env → List Int) (e : Env) : Int := if cm = true then jn ck (L e) ((popV w (V e)).headD 0) else (popV w (V e)).headD 0
/-- with the ands ahead of it -/
def gan (bs : Nat) (A x : Env → Int) (e : Env) : Int := if bs = 2 ∨ bs = 3 then and2 (A e) (x e) else x e
/-- with the ors ahead of it -/
def gor (bs : Nat) (O y : Env → Int) (e : Env) : Int := if bs = 1 ∨ bs = 3 then or2 (O e) (y e) else y e
def opv (k v : Int) (e : Env) : Int := if k = 1 then v else e (k - 2).toNat
def nxt : PS → Int → Int → Nat → PS
  | (st, dp, cm, am, wp, nt, R, me, mt, bs, A, O, ck, L, w, V), k, v, b =>
    if st = 0 then ((if k = 23 then 1 else 2), dp, cm, 0, wp, nt + 1, R, me, mt, bs, A, O, ck, L, w, V)
    else if st = 1 then (2, dp, cm, v, (if wp = -1 ∧ (v < 1 ∨ 1000 < v) then (b : Int) else wp), nt + 1, R, me, mt, bs, A, O, ck, L, w, V)
    else if st = 2 then (3, dp, cm, am, wp, nt + 1, R, me, mt, bs, A, O, ck, L, w, V)
    else if st = 3 ∨ st = 4 then
      (if k = 20 then (4, dp + 1, cm, am, wp, nt + 1, R, me, mt, bs, A, O, ck, L, 20 :: w, V)
       else ((if k = 9 ∨ k = 10 then 5 else 6), dp, cm, am, wp, nt + 1, R, me, mt, bs, A, O, ck, L, w, fun e => opv k v e :: V e))
    else if k = 17 ∨ k = 18 then (4, dp, cm, am, wp, nt + 1, R, me, mt, bs, A, O, ck, L, k :: popW w, fun e => popV w (V e))
    else if k = 19 then (4, dp, cm, am, wp, nt + 1, R, me, mt, bs, A, O, ck, L, 19 :: potW w, fun e => potV w (V e))
    else if k = 21 then (6, dp - 1, cm, am, wp, nt + 1, R, me, mt, bs, A, O, ck, L, (popW w).tail, fun e => popV w (V e))
    else if 13 ≤ k ∧ k ≤ 16 then (4, dp, true, am, wp, nt + 1, R, me, mt, bs, A, O, k, (fun e => (popV w (V e)).headD 0), [], fun _ => [])
    else if k = 12 then (3, dp, false, am, wp, nt + 1, R, me, mt, (if bs = 1 ∨ bs = 3 then 3 else 2), gan bs A (lit cm ck L w V), O, ck, L, [], fun _ => [])
    else if k = 11 then (3, dp, false, am, wp, nt + 1, R, me, mt, 1, A, gor bs O (gan bs A (lit cm ck L w V)), ck, L, [], fun _ => [])
    else (0, dp, false, am, wp, nt + 1, R + 1, (fun r => if r = R then gor bs O (gan bs A (lit cm ck L w V)) else me r), (fun r => if r = R then am else mt r), 0, A, O, ck, L, [], fun _ => [])
/-! what holds of every state that is reached -/
def nops : List Int → Nat
  | [] => 0
  | k :: w => (if k = 20 then 0 else 1) + nops w
/-- what waits in an expression of so many open signs -/
def okw : List Int → Nat → Prop
  | [], d => d = 0
  | k :: w, d => (k = 20 ∧ 1 ≤ d ∧ okw w (d - 1)) ∨ (k = 19 ∧ okw w d ∧ w.head? ≠ some 19) ∨ ((k = 17 ∨ k = 18) ∧ okw w d ∧ (w = [] ∨ w.head? = some 20))
theorem okw_len : ∀ (w : List Int) (d : Nat), okw w d → w.length ≤ 3 * d + 2 ∧ (w.head? ≠ some 19 → w.length ≤ 3 * d + 1) ∧ (w = [] ∨ w.head? = some 20 → w.length ≤ 3 * d) := by
  intro w
  induction w with
  | nil => intro d h; exact ⟨Nat.zero_le _, fun _ => Nat.zero_le _, fun _ => Nat.zero_le _⟩
  | cons k w ih =>
    intro d h
    rw [okw] at h
    rw [List.length_cons, List.head?_cons]
    rcases h with ⟨h1, h2, h3⟩ | ⟨h1, h2, h3⟩ | ⟨h1, h2, h3⟩
    · have := (ih (d - 1) h3).1
      omega
    · have := (ih d h2).2.1 h3
      refine ⟨by omega, fun z => absurd (by rw [h1]) z, fun z => ?_⟩
      rcases z with z | z
      · cases z
      · rw [h1] at z; cases z
    · have := (ih d h2).2.2 h3
      refine ⟨by omega, fun _ => by omega, fun z => ?_⟩
      rcases z with z | z
      · cases z
      · rcases h1 with h1 | h1 <;> (rw [h1] at z; cases z)
theorem okw_pop : ∀ (w : List Int) (d : Nat), okw w d → okw (popW w) d ∧ (popW w = [] ∨ (popW w).head? = some 20) := by
  intro w
  induction w with
  | nil => intro d h; exact ⟨h, Or.inl rfl⟩
  | cons k w ih =>
    intro d h
    rw [popW]
    by_cases q : k = 20
    · rw [if_pos q]
      exact ⟨h, Or.inr (by rw [List.head?_cons, q])⟩
    · rw [if_neg q]
      rw [okw] at h
      rcases h with ⟨h1, h2, h3⟩ | ⟨h1, h2, h3⟩ | ⟨h1, h2, h3⟩
      · exact absurd h1 q
      · exact ih d h2
      · exact ih d h2
theorem okw_pot : ∀ (w : List Int) (d : Nat), okw w d → okw (potW w) d ∧ (potW w).head? ≠ some 19 := by
  intro w
  induction w with
  | nil => intro d h; exact ⟨h, by intro z; cases z⟩
  | cons k w ih =>
    intro d h
    rw [potW]
    by_cases q : k = 19
    · rw [if_pos q]
      rw [okw] at h
      rcases h with ⟨h1, h2, h3⟩ | ⟨h1, h2, h3⟩ | ⟨h1, h2, h3⟩
      · omega
      · exact ih d h2
      · omega
    · rw [if_neg q]
      refine ⟨h, ?_⟩
      rw [List.head?_cons]
      intro z
      cases z
      exact q rfl
theorem ap_len {k : Int} {v : List Int} (h : 2 ≤ v.length) : (ap k v).length = v.length - 1 := by
  match v, h with
  | b :: a :: r, _ => rfl
theorem popV_len : ∀ (w v : List Int), v.length = nops w + 1 → (popV w v).length = nops (popW w) + 1 := by
  intro w
  induction w with
  | nil => intro v h; exact h
  | cons k w ih =>
    intro v h
    rw [popV, popW]
    by_cases q : k = 20
    · rw [if_pos q, if_pos q]; exact h
    · rw [if_neg q, if_neg q]
      rw [nops, if_neg q] at h
      exact ih _ (by rw [ap_len (by omega)]; omega)
theorem potV_len : ∀ (w v : List Int), v.length = nops w + 1 → (potV w v).length = nops (potW w) + 1 := by
  intro w
  induction w with
  | nil => intro v h; exact h
  | cons k w ih =>
    intro v h
    rw [potV, potW]
    by_cases q : k = 19
    · rw [if_pos q, if_pos q]
      rw [nops, if_neg (by omega)] at h
      exact ih _ (by rw [ap_len (by omega)]; omega)
    · rw [if_neg q, if_neg q]; exact h
theorem okw_0 : ∀ (w : List Int), okw w 0 → popW w = [] := by
  intro w
  induction w with
  | nil => intro _; rfl
  | cons k w ih =>
    intro h
    rw [okw] at h
    rcases h with ⟨h1, h2, h3⟩ | ⟨h1, h2, h3⟩ | ⟨h1, h2, h3⟩
    · omega
    · rw [popW, if_neg (by omega)]; exact ih h2
    · rw [popW, if_neg (by omega)]; exact ih h2
/-- what holds of the states -/
def PI : PS → Prop
  | (st, dp, cm, am, wp, nt, R, me, mt, bs, A, O, ck, L, w, V) => st ≤ 6 ∧ dp ≤ 6 ∧ nt ≤ 400 ∧ R ≤ 20 ∧ bs ≤ 3 ∧ okw w dp ∧ (∀ e, (V e).length = nops w + (if st = 5 ∨ st = 6 then 1 else 0)) ∧ (cm = true → 13 ≤ ck ∧ ck ≤ 16) ∧ (st ≤ 2 → bs = 0) ∧ (st ≤ 3 ∨ st = 5 → cm = false ∧ w = [] ∧ dp = 0) ∧ (st ≠ 0 → R < 20)
theorem PI_0 : PI ps0s := ⟨by decide, by decide, by decide, by decide, by decide, rfl, fun _ => rfl, (fun h => by cases h), fun _ => rfl, fun _ => ⟨rfl, rfl, rfl⟩, fun h => absurd rfl h⟩
theorem PI_nxt {s : PS} {k v : Int} {b : Nat} (h : PI s) (hf : flt s k = 0) : PI (nxt s k v b) := by
  obtain ⟨st, dp, cm, am, wp, nt, R, me, mt, bs, A, O, ck, L, w, V⟩ := s
  obtain ⟨h1, h2, h3, h4, h5, h6, h7, h8, h9, h10, h11⟩ := h
  unfold flt at hf
  have g : goes st dp cm k := by
    by_cases q : goes st dp cm k
    · exact q
    · simp only [if_pos q] at hf
      exact absurd hf (by decide)
  have m : ¬ much st dp nt R k := by
    intro q
    simp only [if_neg (not_not_intro g), if_pos q] at hf
    exact absurd hf (by decide)
  clear hf
  have n4 : nt < 400 := by unfold much at m; omega
  unfold nxt
  simp only
  by_cases z0 : st = 0
  · rw [if_pos z0]
    have hR : R < 20 := by unfold much at m; omega
    obtain ⟨u1, u2, u3⟩ := h10 (by omega)
    refine ⟨by split <;> omega, h2, by omega, h4, h5, h6, fun e => ?_, h8, fun _ => h9 (by omega), fun _ => ⟨u1, u2, u3⟩, fun _ => hR⟩
    rw [h7 e, if_neg (by omega), if_neg (by split <;> omega)]
  rw [if_neg z0]
  have hR := h11 z0
  by_cases z1 : st = 1
  · rw [if_pos z1]
    refine ⟨by omega, h2, by omega, h4, h5, h6, fun e => ?_, h8, fun _ => h9 (by omega), fun _ => h10 (by omega), fun _ => hR⟩
    rw [h7 e, if_neg (by omega), if_neg (by omega)]
  rw [if_neg z1]
  by_cases z2 : st = 2
  · rw [if_pos z2]
    refine ⟨by omega, h2, by omega, h4, h5, h6, fun e => ?_, h8, fun z => absurd z (by decide), fun _ => h10 (by omega), fun _ => hR⟩
    rw [h7 e, if_neg (by omega), if_neg (by omega)]
  rw [if_neg z2]
  by_cases z3 : st = 3 ∨ st = 4
  · rw [if_pos z3]
    by_cases q : k = 20
    · rw [if_pos q]
      have d6 : dp < 6 := by unfold much at m; omega
      refine ⟨by omega, by omega, by omega, h4, h5, ?_, fun e => ?_, h8, fun z => absurd z (by decide), fun z => by omega, fun _ => hR⟩
      · rw [okw]
        exact Or.inl ⟨rfl, by omega, by rw [Nat.add_sub_cancel]; exact h6⟩
      · rw [h7 e, if_neg (by omega), if_neg (by omega), nops, if_pos rfl, Nat.zero_add]
    · rw [if_neg q]
      refine ⟨by split <;> omega, h2, by omega, h4, h5, h6, fun e => ?_, h8, fun z => ?_, fun z => ?_, fun _ => hR⟩
      · rw [List.length_cons, h7 e, if_neg (by omega), if_pos (by split <;> omega)]
      · revert z; split <;> omega
      · have : st = 3 := by
          rcases z3 with y | y
          · exact y
          · exfalso
            subst y
            have gk : bo k := by unfold goes at g; omega
            unfold bo at gk
            revert z
            rw [if_neg (by omega)]
            omega
        exact h10 (by omega)
  rw [if_neg z3]
  have s56 : st = 5 ∨ st = 6 := by omega
  have l7 : ∀ e, (V e).length = nops w + 1 := fun e => by rw [h7 e, if_pos s56]
  by_cases q1 : k = 17 ∨ k = 18
  · rw [if_pos q1]
    obtain ⟨o1, o2⟩ := okw_pop w dp h6
    refine ⟨by omega, h2, by omega, h4, h5, ?_, fun e => ?_, h8, fun z => absurd z (by decide), fun z => by omega, fun _ => hR⟩
    · rw [okw]
      exact Or.inr (Or.inr ⟨q1, o1, o2⟩)
    · rw [popV_len w _ (l7 e), if_neg (by omega), nops, if_neg (by omega)]
      omega
  rw [if_neg q1]
  by_cases q2 : k = 19
  · rw [if_pos q2]
    obtain ⟨o1, o2⟩ := okw_pot w dp h6
    refine ⟨by omega, h2, by omega, h4, h5, ?_, fun e => ?_, h8, fun z => absurd z (by decide), fun z => by omega, fun _ => hR⟩
    · rw [okw]
      exact Or.inr (Or.inl ⟨rfl, o1, o2⟩)
    · rw [potV_len w _ (l7 e), if_neg (by omega), nops, if_neg (by omega)]
      omega
  rw [if_neg q2]
  by_cases q3 : k = 21
  · rw [if_pos q3]
    have g6 : st = 6 ∧ 0 < dp := by unfold goes fo fl3 bo at g; omega
    obtain ⟨o1, o2⟩ := okw_pop w dp h6
    rcases o2 with y | y
    · rw [y] at o1
      rw [okw] at o1
      omega
    · obtain ⟨w', hw⟩ : ∃ w', popW w = 20 :: w' := by
        cases hq : popW w with
        | nil => rw [hq] at y; cases y
        | cons a t => rw [hq] at y; cases y; exact ⟨t, rfl⟩
      rw [hw, okw] at o1
      have o3 : okw w' (dp - 1) := by
        rcases o1 with ⟨-, -, o⟩ | ⟨o, -⟩ | ⟨o, -⟩
        · exact o
        · omega
        · omega
      refine ⟨by omega, by omega, by omega, h4, h5, by rw [hw]; exact o3, fun e => ?_, h8, fun z => absurd z (by decide), fun z => by omega, fun _ => hR⟩
      rw [popV_len w _ (l7 e), hw, if_pos (Or.inr rfl), nops, if_pos rfl, Nat.zero_add]
      rfl
  rw [if_neg q3]
  by_cases q4 : 13 ≤ k ∧ k ≤ 16
  · rw [if_pos q4]
    have d0 : dp = 0 := by unfold goes fo fl3 bo at g; omega
    refine ⟨by omega, h2, by omega, h4, h5, d0, fun e => ?_, fun _ => q4, fun z => absurd z (by decide), fun z => by omega, fun _ => hR⟩
    rw [if_neg (by omega)]; rfl
  rw [if_neg q4]
  have d0 : dp = 0 := by
    rcases s56 with y | y
    · exact (h10 (Or.inr y)).2.2
    · unfold goes fo fl3 bo at g; omega
  by_cases q5 : k = 12
  · rw [if_pos q5]
    refine ⟨by omega, h2, by omega, h4, by split <;> omega, d0, fun e => ?_, (fun z => by cases z), fun z => absurd z (by decide), fun _ => ⟨rfl, rfl, d0⟩, fun _ => hR⟩
    rw [if_neg (by omega)]; rfl
  rw [if_neg q5]
  by_cases q6 : k = 11
  · rw [if_pos q6]
    refine ⟨by omega, h2, by omega, h4, by omega, d0, fun e => ?_, (fun z => by cases z), fun z => absurd z (by decide), fun _ => ⟨rfl, rfl, d0⟩, fun _ => hR⟩
    rw [if_neg (by omega)]; rfl
  rw [if_neg q6]
  refine ⟨by omega, h2, by omega, by omega, by omega, d0, fun e => ?_, (fun z => by cases z), fun _ => rfl, fun _ => ⟨rfl, rfl, d0⟩, fun z => absurd rfl z⟩
  rw [if_neg (by omega)]; rfl
/-! the run over a text -/
def tk (B : Nat → Int) (sz k : Nat) : Int := tkK B sz (bg B sz k)
def tvv (B : Nat → Int) (sz k : Nat) : Int := tkV B sz (bg B sz k)
def sg (B : Nat → Int) (sz : Nat) : Nat → PS
  | 0 => ps0s
  | k + 1 => nxt (sg B sz k) (tk B sz k) (tvv B sz k) (bg B sz k)
/-- the first k tokens went well -/
def ok (B : Nat → Int) (sz k : Nat) : Prop := ∀ j, j < k → bg B sz j < sz ∧ flt (sg B sz j) (tk B sz j) = 0
/-- it ends at token k -/
def fin (B : Nat → Int) (sz k : Nat) : Prop := ok B sz k ∧ (bg B sz k = sz ∨ (bg B sz k < sz ∧ flt (sg B sz k) (tk B sz k) ≠ 0))
theorem ok_s {B : Nat → Int} {sz k : Nat} (h : ok B sz k) (h1 : bg B sz k < sz) (h2 : flt (sg B sz k) (tk B sz k) = 0) : ok B sz (k + 1) := by
  intro j hj
  by_cases z : j = k
  · rw [z]; exact ⟨h1, h2⟩
  · exact h j (by omega)
theorem fin_1 {B : Nat → Int} {sz j k : Nat} (h : fin B sz j) (h' : fin B sz k) : j = k := by
  by_cases z : j < k
  · have := h'.1 j z
    rcases h.2 with y | y
    · omega
    · exact absurd this.2 y.2
  · by_cases z2 : k < j
    · have := h.1 k z2
      rcases h'.2 with y | y
      · omega
      · exact absurd this.2 y.2
    · omega
theorem sg_PI {B : Nat → Int} {sz : Nat} : ∀ k, ok B sz k → PI (sg B sz k) := by
  intro k
  induction k with
  | zero => intro _; exact PI_0
  | succ k ih =>
    intro h
    exact PI_nxt (ih (fun j hj => h j (by omega))) (h k (Nat.lt_succ_self k)).2
theorem nxt_nt {s : PS} {k v : Int} {b : Nat} : (nxt s k v b).2.2.2.2.2.1 = s.2.2.2.2.2.1 + 1 := by
  obtain ⟨st, dp, cm, am, wp, nt, R, me, mt, bs, A, O, ck, L, w, V⟩ := s
  unfold nxt
  simp only
  by_cases z0 : st = 0
  · rw [if_pos z0]
  rw [if_neg z0]
  by_cases z1 : st = 1
  · rw [if_pos z1]
  rw [if_neg z1]
  by_cases z2 : st = 2
  · rw [if_pos z2]
  rw [if_neg z2]
  by_cases z3 : st = 3 ∨ st = 4
  · rw [if_pos z3]
    by_cases y : k = 20
    · rw [if_pos y]
    · rw [if_neg y]
  rw [if_neg z3]
  by_cases z4 : k = 17 ∨ k = 18
  · rw [if_pos z4]
  rw [if_neg z4]
  by_cases z5 : k = 19
  · rw [if_pos z5]
  rw [if_neg z5]
  by_cases z6 : k = 21
  · rw [if_pos z6]
  rw [if_neg z6]
  by_cases z7 : 13 ≤ k ∧ k ≤ 16
  · rw [if_pos z7]
  rw [if_neg z7]
  by_cases z8 : k = 12
  · rw [if_pos z8]
  rw [if_neg z8]
  by_cases z9 : k = 11
  · rw [if_pos z9]
  rw [if_neg z9]
theorem sg_nt {B : Nat → Int} {sz : Nat} : ∀ k, (sg B sz k).2.2.2.2.2.1 = k := by
  intro k
  induction k with
  | zero => rfl
  | succ k ih => rw [sg, nxt_nt, ih]
