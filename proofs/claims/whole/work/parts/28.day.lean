/-! ===== the day: what is sent, as a function of what was told ===== -/
/-- the winner among the first s sources, asked one after the other -/
def wn (M : mM) (c : Int) (n t : Nat) : Nat → Int
  | 0 => -1
  | s + 1 => if hrd M s c n t ≠ -1 ∧ (wn M c n t s = -1 ∨ gi M 55 (gi M 57 (wn M c n t s).toNat).toNat < gi M 55 s) then hrd M s c n t else wn M c n t s
def vlo (M : mM) (f : Int) : Int := if f ≠ -1 ∧ gi M 61 f.toNat = 0 then -1 else f
def bs (M : mM) (c : Int) (n t : Nat) : Int := vlo M (wn M c n t 6)
/-- the reference's loop of an over: r slots left, at slot k, so many to push -/
def psr (row : Nat → Int) : Nat → Nat → Nat → (Nat → Int) → Nat → Int
  | 0, _, _, cur => cur
  | r + 1, k, p, cur => if row k = -1 ∧ 0 < p then psr row r (k + 1) (p - 1) cur else if k + p < 288 then psr row r (k + 1) p (fun j => if j = k + p then row k else cur j) else psr row r (k + 1) p cur
def ps0 (row : Nat → Int) (t d : Nat) (j : Nat) : Int := if j < t then row j else if j < t + d then row (t - 1) else -1
def psh (M : mM) (row : Nat → Int) (t d : Nat) : Nat → Int := if row (t - 1) = -1 ∨ gi M 63 (row (t - 1)).toNat = 0 then row else psr row (288 - t) t d (ps0 row t d)
/-- the row of channel c after the overs among the first k facts, n facts known -/
def dyr (M : mM) (c : Int) (n : Nat) : Nat → Nat → Int
  | 0 => bs M c n
  | k + 1 => if gi M 56 k = 1 ∧ gi M 58 k = c then psh M (dyr M c n k) (gi M 59 k).toNat (gi M 60 k).toNat else dyr M c n k
def dy (M : mM) (n : Nat) (c t : Nat) : Int := dyr M c n n t
/-- what a survey of n facts rests on is the same -/
def fe (n : Nat) (M M' : mM) : Prop := (∀ a k, 56 ≤ a → a ≤ 63 → k < n → gi M' a k = gi M a k) ∧ ∀ s : Nat, (s : Int) < gi M 35 35 → gi M' 55 s = gi M 55 s
theorem hrd_lt (M : mM) (s c : Int) (t : Nat) : ∀ n, hrd M s c n t = -1 ∨ ∃ k : Nat, hrd M s c n t = k ∧ k < n ∧ gi M 56 k = 0 ∧ gi M 57 k = s ∧ gi M 58 k = c ∧ gi M 59 k ≤ t ∧ (t : Int) < gi M 60 k := by
  intro n
  induction n with
  | zero => exact Or.inl rfl
  | succ n ih =>
    rw [hrd]
    by_cases q : gi M 56 n = 0 ∧ gi M 57 n = s ∧ gi M 58 n = c ∧ gi M 59 n ≤ t ∧ (t : Int) < gi M 60 n
    · rw [if_pos q]
      exact Or.inr ⟨n, rfl, Nat.lt_succ_self n, q⟩
    · rw [if_neg q]
      rcases ih with w | ⟨k, w1, w2, w3⟩
      · exact Or.inl w
      · exact Or.inr ⟨k, w1, by omega, w3⟩
theorem hrd_no {M : mM} (hf : FM M) {s : Int} {n : Nat} (hn : (n : Int) ≤ gi M 35 37) (hs : s < 0 ∨ gi M 35 35 ≤ s) (c : Int) (t : Nat) : hrd M s c n t = -1 := by
  rcases hrd_lt M s c t n with w | ⟨k, w1, w2, w3, w4, -⟩
  · exact w
  · have := ((hf k (by omega)).2.2.1 w3).1
    omega
theorem hrd_fe {M M' : mM} {n : Nat} (h : fe n M M') (s c : Int) (t : Nat) : ∀ k, k ≤ n → hrd M' s c k t = hrd M s c k t := by
  intro k
  induction k with
  | zero => intro _; rfl
  | succ k ih =>
    intro hk
    rw [hrd, hrd, ih (by omega), h.1 56 k (by decide) (by decide) (by omega), h.1 57 k (by decide) (by decide) (by omega), h.1 58 k (by decide) (by decide) (by omega), h.1 59 k (by decide) (by decide) (by omega), h.1 60 k (by decide) (by decide) (by omega)]
theorem wn_lt (M : mM) (c : Int) (n t : Nat) : ∀ s, wn M c n t s = -1 ∨ ∃ k : Nat, wn M c n t s = k ∧ k < n ∧ gi M 56 k = 0 ∧ (0 ≤ gi M 57 k ∧ gi M 57 k < s) ∧ gi M 58 k = c ∧ gi M 59 k ≤ t ∧ (t : Int) < gi M 60 k := by
  intro s
  induction s with
  | zero => exact Or.inl rfl
  | succ s ih =>
    rw [wn]
    by_cases q : hrd M s c n t ≠ -1 ∧ (wn M c n t s = -1 ∨ gi M 55 (gi M 57 (wn M c n t s).toNat).toNat < gi M 55 s)
    · rw [if_pos q]
      rcases hrd_lt M s c t n with w | ⟨k, w1, w2, w3, w4, w5⟩
      · exact absurd w q.1
      · exact Or.inr ⟨k, w1, w2, w3, ⟨by omega, by omega⟩, w5⟩
    · rw [if_neg q]
      rcases ih with w | ⟨k, w1, w2, w3, w4, w5⟩
      · exact Or.inl w
      · exact Or.inr ⟨k, w1, w2, w3, ⟨by omega, by omega⟩, w5⟩
theorem wn_fe {M M' : mM} {n : Nat} (hf : FM M) (hn : (n : Int) ≤ gi M 35 37) (h : fe n M M') (c : Int) (t : Nat) : ∀ s, wn M' c n t s = wn M c n t s := by
  intro s
  induction s with
  | zero => rfl
  | succ s ih =>
    rw [wn, wn, ih, hrd_fe h _ _ _ n (Nat.le_refl n)]
    by_cases q : hrd M s c n t = -1
    · rw [if_neg (fun w => w.1 q), if_neg (fun w => w.1 q)]
    · have hs : (s : Int) < gi M 35 35 := by
        by_cases z : (s : Int) < gi M 35 35
        · exact z
        · exact absurd (hrd_no hf hn (Or.inr (by omega)) c t) q
      rw [h.2 s hs]
      rcases wn_lt M c n t s with w | ⟨k, w1, w2, w3, w4, w5⟩
      · rw [if_pos ⟨q, Or.inl w⟩, if_pos ⟨q, Or.inl w⟩]
      · rw [w1, Int.toNat_natCast, h.1 57 k (by decide) (by decide) w2, h.2 (gi M 57 k).toNat (by omega)]
/-- beyond the sources that there are nothing is heard -/
theorem wn_stop {M : mM} (hf : FM M) {n S : Nat} (hn : (n : Int) ≤ gi M 35 37) (hS : gi M 35 35 = S) (c : Int) (t : Nat) : ∀ r, wn M c n t (S + r) = wn M c n t S := by
  intro r
  induction r with
  | zero => rfl
  | succ r ih =>
    rw [← Nat.add_assoc, wn, if_neg, ih]
    intro w
    exact w.1 (hrd_no hf hn (Or.inr (by omega)) c t)
theorem bs_fe {M M' : mM} {n : Nat} (hf : FM M) (hn : (n : Int) ≤ gi M 35 37) (h : fe n M M') (c : Int) (t : Nat) : bs M' c n t = bs M c n t := by
  unfold bs vlo
  rw [wn_fe hf hn h]
  rcases wn_lt M c n t 6 with w | ⟨k, w1, w2, -⟩
  · rw [if_neg (fun z => z.1 w), if_neg (fun z => z.1 w)]
  · rw [w1, Int.toNat_natCast, h.1 61 k (by decide) (by decide) w2]
/-- a row's values are NONE or facts with P -/
theorem psr_val {row : Nat → Int} {P : Int → Prop} (h0 : ∀ j, P (row j)) : ∀ (r k p : Nat) (cur : Nat → Int), (∀ j, P (cur j)) → ∀ j, P (psr row r k p cur j) := by
  intro r
  induction r with
  | zero => intro k p cur hc j; exact hc j
  | succ r ih =>
    intro k p cur hc j
    rw [psr]
    split
    · exact ih _ _ _ hc j
    · split
      · refine ih _ _ _ (fun j => ?_) j
        split
        · exact h0 k
        · exact hc j
      · exact ih _ _ _ hc j
theorem psh_val {M : mM} {row : Nat → Int} {t d : Nat} {P : Int → Prop} (h0 : ∀ j, P (row j)) (h1 : P (-1)) (j : Nat) : P (psh M row t d j) := by
  unfold psh
  split
  · exact h0 j
  · refine psr_val h0 _ _ _ _ (fun j => ?_) j
    unfold ps0
    split
    · exact h0 j
    · split
      · exact h0 _
      · exact h1
/-- a fact that may be sent on channel c, n facts known -/
def okf (M : mM) (c : Int) (n : Nat) (f : Int) : Prop := f = -1 ∨ ∃ k : Nat, f = k ∧ k < n ∧ gi M 56 k = 0 ∧ gi M 58 k = c ∧ gi M 61 k ≠ 0
theorem bs_ok (M : mM) (c : Int) (n t : Nat) : okf M c n (bs M c n t) := by
  unfold bs vlo
  rcases wn_lt M c n t 6 with w | ⟨k, w1, w2, w3, -, w4, -⟩
  · rw [if_neg (fun z => z.1 w)]
    exact Or.inl w
  · rw [w1, Int.toNat_natCast]
    by_cases q : gi M 61 k = 0
    · rw [if_pos ⟨by omega, q⟩]
      exact Or.inl rfl
    · rw [if_neg (fun z => q z.2)]
      exact Or.inr ⟨k, rfl, w2, w3, w4, q⟩
theorem dyr_ok (M : mM) (c : Int) (n : Nat) : ∀ k t, okf M c n (dyr M c n k t) := by
  intro k
  induction k with
  | zero => exact bs_ok M c n
  | succ k ih =>
    intro t
    rw [dyr]
    split
    · exact psh_val ih (Or.inl rfl) t
    · exact ih t
theorem psh_fe {M M' : mM} {c : Int} {n : Nat} (h : fe n M M') {row : Nat → Int} (hr : ∀ j, okf M c n (row j)) (t d : Nat) : psh M' row t d = psh M row t d := by
  unfold psh
  rcases hr (t - 1) with w | ⟨k, w, w2, -⟩
  · rw [if_pos (Or.inl w), if_pos (Or.inl w)]
  · rw [w, Int.toNat_natCast, h.1 63 k (by decide) (by decide) w2]
theorem dyr_fe {M M' : mM} {n : Nat} (hf : FM M) (hn : (n : Int) ≤ gi M 35 37) (h : fe n M M') (c : Int) : ∀ k, k ≤ n → dyr M' c n k = dyr M c n k := by
  intro k
  induction k with
  | zero =>
    intro _
    funext t
    exact bs_fe hf hn h c t
  | succ k ih =>
    intro hk
    rw [dyr, dyr, ih (by omega), h.1 56 k (by decide) (by decide) (by omega), h.1 58 k (by decide) (by decide) (by omega), h.1 59 k (by decide) (by decide) (by omega), h.1 60 k (by decide) (by decide) (by omega), psh_fe h (dyr_ok M c n k)]
theorem dy_fe {M M' : mM} {n : Nat} (hf : FM M) (hn : (n : Int) ≤ gi M 35 37) (h : fe n M M') (c t : Nat) : dy M' n c t = dy M n c t := by
  unfold dy
  rw [dyr_fe hf hn h c n (Nat.le_refl n)]
theorem dy_ok (M : mM) (n c t : Nat) : okf M c n (dy M n c t) := dyr_ok M c n n t
/-! the winner by ranks -/
def bts (M : mM) (s s' : Nat) : Prop := gi M 55 s' < gi M 55 s ∨ (gi M 55 s = gi M 55 s' ∧ s < s')
def win (M : mM) (c : Int) (n t S : Nat) (f : Int) : Prop := (f = -1 ∧ ∀ s, s < S → hrd M s c n t = -1) ∨ ∃ s, s < S ∧ hrd M s c n t = f ∧ f ≠ -1 ∧ ∀ s', s' < S → hrd M s' c n t ≠ -1 → s' ≠ s → bts M s s'
theorem win_1 {M : mM} {c : Int} {n t S : Nat} {f g : Int} (h1 : win M c n t S f) (h2 : win M c n t S g) : f = g := by
  rcases h1 with ⟨a1, a2⟩ | ⟨s, a1, a2, a3, a4⟩
  · rcases h2 with ⟨b1, b2⟩ | ⟨s', b1, b2, b3, b4⟩
    · rw [a1, b1]
    · exact absurd (b2.symm.trans (a2 s' b1)) b3
  · rcases h2 with ⟨b1, b2⟩ | ⟨s', b1, b2, b3, b4⟩
    · exact absurd (a2.symm.trans (b2 s a1)) a3
    · by_cases q : s' = s
      · subst q
        rw [← a2, ← b2]
      · have u := a4 s' b1 (by rw [b2]; exact b3) q
        have v := b4 s a1 (by rw [a2]; exact a3) (fun e => q e.symm)
        unfold bts at u v
        omega
theorem wn_win (M : mM) (c : Int) (n t : Nat) : ∀ S, win M c n t S (wn M c n t S) := by
  intro S
  induction S with
  | zero => exact Or.inl ⟨rfl, fun s h => absurd h (Nat.not_lt_zero s)⟩
  | succ S ih =>
    rw [wn]
    by_cases q : hrd M S c n t = -1
    · rw [if_neg (fun w => w.1 q)]
      rcases ih with ⟨a1, a2⟩ | ⟨s, a1, a2, a3, a4⟩
      · refine Or.inl ⟨a1, fun s hs => ?_⟩
        by_cases z : s = S
        · rw [z]; exact q
        · exact a2 s (by omega)
      · refine Or.inr ⟨s, by omega, a2, a3, fun s' hs hh hne => ?_⟩
        by_cases z : s' = S
        · rw [z] at hh; exact absurd q hh
        · exact a4 s' (by omega) hh hne
    · rcases ih with ⟨a1, a2⟩ | ⟨s, a1, a2, a3, a4⟩
      · rw [if_pos ⟨q, Or.inl a1⟩]
        refine Or.inr ⟨S, Nat.lt_succ_self S, rfl, q, fun s' hs hh hne => ?_⟩
        exact absurd (a2 s' (by omega)) hh
      · have hsrc : gi M 57 (wn M c n t S).toNat = s := by
          rw [← a2]
          rcases hrd_lt M s c t n with w | ⟨k, w1, w2, w3, w4, w5⟩
          · rw [a2] at w; exact absurd w a3
          · rw [w1, Int.toNat_natCast]; exact w4
        rw [hsrc, Int.toNat_natCast]
        by_cases z : gi M 55 s < gi M 55 S
        · rw [if_pos ⟨q, Or.inr z⟩]
          refine Or.inr ⟨S, Nat.lt_succ_self S, rfl, q, fun s' hs hh hne => ?_⟩
          by_cases y : s' = s
          · rw [y]; exact Or.inl z
          · have := a4 s' (by omega) hh y
            unfold bts at this ⊢
            omega
        · rw [if_neg (fun w => w.2.elim a3 z)]
          refine Or.inr ⟨s, by omega, a2, a3, fun s' hs hh hne => ?_⟩
          by_cases y : s' = S
          · subst y
            unfold bts
            omega
          · exact a4 s' (by omega) hh hne
/-- what the class lays: rank by rank, the best last -/
def cf (M : mM) (p : Nat → Nat) (c : Int) (n t : Nat) : Nat → Int
  | 0 => -1
  | r + 1 => if hrd M (p r) c n t ≠ -1 then hrd M (p r) c n t else cf M p c n t r
/-- the ranks: p r is the source at rank r -/
def RKp (M : mM) (S : Nat) (p : Nat → Nat) : Prop := (∀ r, r < S → p r < S ∧ gr M 3 r = gr M 2 (p r)) ∧ (∀ r r', r < r' → r' < S → bts M (p r') (p r)) ∧ ∀ j, j < S → ∃ r, r < S ∧ p r = j
theorem cf_win {M : mM} {S : Nat} {p : Nat → Nat} (h : RKp M S p) (c : Int) (n t : Nat) : cf M p c n t S = wn M c n t S := by
  have key : ∀ R, R ≤ S → (cf M p c n t R = -1 ∧ ∀ r, r < R → hrd M (p r) c n t = -1) ∨ ∃ r, r < R ∧ hrd M (p r) c n t = cf M p c n t R ∧ cf M p c n t R ≠ -1 ∧ ∀ r', r < r' → r' < R → hrd M (p r') c n t = -1 := by
    intro R
    induction R with
    | zero => intro _; exact Or.inl ⟨rfl, fun r h => absurd h (Nat.not_lt_zero r)⟩
    | succ R ih =>
      intro hR
      rw [cf]
      by_cases q : hrd M (p R) c n t ≠ -1
      · rw [if_pos q]
        exact Or.inr ⟨R, Nat.lt_succ_self R, rfl, q, fun r' h1 h2 => by omega⟩
      · rw [if_neg q]
        have q' := Decidable.not_not.mp q
        rcases ih (by omega) with ⟨a1, a2⟩ | ⟨r, a1, a2, a3, a4⟩
        · refine Or.inl ⟨a1, fun r hr => ?_⟩
          by_cases z : r = R
          · rw [z]; exact q'
          · exact a2 r (by omega)
        · refine Or.inr ⟨r, by omega, a2, a3, fun r' h1 h2 => ?_⟩
          by_cases z : r' = R
          · rw [z]; exact q'
          · exact a4 r' h1 (by omega)
  refine win_1 ?_ (wn_win M c n t S)
  obtain ⟨h1, h2, h3⟩ := h
  rcases key S (Nat.le_refl S) with ⟨a1, a2⟩ | ⟨r, a1, a2, a3, a4⟩
  · refine Or.inl ⟨a1, fun s hs => ?_⟩
    obtain ⟨r, hr, e⟩ := h3 s hs
    rw [← e]; exact a2 r hr
  · refine Or.inr ⟨p r, (h1 r a1).1, a2, a3, fun s' hs hh hne => ?_⟩
    obtain ⟨r', hr', e⟩ := h3 s' hs
    rw [← e] at hh hne ⊢
    by_cases z : r' < r
    · exact h2 r' r z a1
    · exact absurd (a4 r' (by have : r' ≠ r := fun w => hne (by rw [w]); omega) hr') hh
