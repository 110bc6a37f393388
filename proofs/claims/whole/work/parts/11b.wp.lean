section EQB
variable {C : mC} {t : mT} {pc n tg : Nat} {ls st : List mV} {M : mM} {Q : mV → mM → Prop} {x y : Int}
theorem E_if0 (h : mLk t pc = o_if 0 tg n) : WP C t pc ls (vi x :: st) M Q = if x = 0 then WP C t tg ls st M Q else WP C t n ls st M Q := @E_if C t pc n ls st M Q 0 tg x h (inferInstanceAs (Decidable (x = 0)))
theorem E_if1 (h : mLk t pc = o_if 1 tg n) : WP C t pc ls (vi x :: st) M Q = if x = 0 then WP C t n ls st M Q else WP C t tg ls st M Q := by
  have e := @E_if C t pc n ls st M Q 1 tg x h (inferInstanceAs (Decidable (¬ x = 0)))
  rw [e]
  exact ite_not ..
theorem E_if2 (h : mLk t pc = o_if 2 tg n) : WP C t pc ls (vi x :: st) M Q = if x < 0 then WP C t tg ls st M Q else WP C t n ls st M Q := @E_if C t pc n ls st M Q 2 tg x h (inferInstanceAs (Decidable (x < 0)))
theorem E_if3 (h : mLk t pc = o_if 3 tg n) : WP C t pc ls (vi x :: st) M Q = if 0 ≤ x then WP C t tg ls st M Q else WP C t n ls st M Q := @E_if C t pc n ls st M Q 3 tg x h (inferInstanceAs (Decidable (0 ≤ x)))
theorem E_if4 (h : mLk t pc = o_if 4 tg n) : WP C t pc ls (vi x :: st) M Q = if 0 < x then WP C t tg ls st M Q else WP C t n ls st M Q := @E_if C t pc n ls st M Q 4 tg x h (inferInstanceAs (Decidable (0 < x)))
theorem E_if5 (h : mLk t pc = o_if 5 tg n) : WP C t pc ls (vi x :: st) M Q = if x ≤ 0 then WP C t tg ls st M Q else WP C t n ls st M Q := @E_if C t pc n ls st M Q 5 tg x h (inferInstanceAs (Decidable (x ≤ 0)))
theorem E_ic0 (h : mLk t pc = o_icmp 0 tg n) : WP C t pc ls (vi y :: vi x :: st) M Q = if x = y then WP C t tg ls st M Q else WP C t n ls st M Q := @E_icmp C t pc n ls st M Q 0 tg x y h (inferInstanceAs (Decidable (x = y)))
theorem E_ic1 (h : mLk t pc = o_icmp 1 tg n) : WP C t pc ls (vi y :: vi x :: st) M Q = if x = y then WP C t n ls st M Q else WP C t tg ls st M Q := by
  have e := @E_icmp C t pc n ls st M Q 1 tg x y h (inferInstanceAs (Decidable (¬ x = y)))
  rw [e]
  exact ite_not ..
theorem E_ic2 (h : mLk t pc = o_icmp 2 tg n) : WP C t pc ls (vi y :: vi x :: st) M Q = if x < y then WP C t tg ls st M Q else WP C t n ls st M Q := @E_icmp C t pc n ls st M Q 2 tg x y h (inferInstanceAs (Decidable (x < y)))
theorem E_ic3 (h : mLk t pc = o_icmp 3 tg n) : WP C t pc ls (vi y :: vi x :: st) M Q = if y ≤ x then WP C t tg ls st M Q else WP C t n ls st M Q := @E_icmp C t pc n ls st M Q 3 tg x y h (inferInstanceAs (Decidable (y ≤ x)))
theorem E_ic4 (h : mLk t pc = o_icmp 4 tg n) : WP C t pc ls (vi y :: vi x :: st) M Q = if y < x then WP C t tg ls st M Q else WP C t n ls st M Q := @E_icmp C t pc n ls st M Q 4 tg x y h (inferInstanceAs (Decidable (y < x)))
theorem E_ic5 (h : mLk t pc = o_icmp 5 tg n) : WP C t pc ls (vi y :: vi x :: st) M Q = if x ≤ y then WP C t tg ls st M Q else WP C t n ls st M Q := @E_icmp C t pc n ls st M Q 5 tg x y h (inferInstanceAs (Decidable (x ≤ y)))
end EQB
/-- the word of a tape's token: the kind of it -/
def mBt (M : mM) (a b : Nat) (p : Int) : Int := if 0 ≤ p ∧ p < gi M a 0 ∧ p < ln M b then gi M b p.toNat else 0
def mSpl (M : mM) (a b : Nat) (w : List Int) : Bool := decide (gi M a 4 - gi M a 3 = w.length) && (List.range w.length).all (fun i => decide (mBt M a b (gi M a 3 + i) = w.getD i 0))
def mKow (M : mM) (a b : Nat) : Int :=
  if mSpl M a b [119, 105, 115, 104] then 23 else if mSpl M a b [110, 101, 118, 101, 114] then 24 else if mSpl M a b [105, 102] then 25 else if mSpl M a b [111, 114] then 11 else if mSpl M a b [97, 110, 100] then 12
  else if mSpl M a b [108, 105, 118, 101] then 9 else if mSpl M a b [102, 105, 114, 115, 116] then 10 else if mSpl M a b [116, 105, 116, 108, 101] then 2 else if mSpl M a b [101, 112, 105, 115, 111, 100, 101] then 3 else if mSpl M a b [99, 104, 97, 110, 110, 101, 108] then 4
  else if mSpl M a b [102, 114, 111, 109] then 5 else if mSpl M a b [117, 110, 116, 105, 108] then 6 else if mSpl M a b [108, 101, 110, 103, 116, 104] then 7 else if mSpl M a b [116, 114, 117, 115, 116] then 8 else 0
/-- kindOfWord as one operation -/
def o_kow : mO := fun _ ls st M r => ∃ a b, ls[0]? = some (vr (some a)) ∧ st = [] ∧ kd M a = 8 ∧ gr M a 5 = some b ∧ kd M b = 13 ∧ 0 ≤ gi M a 3 ∧ gi M a 3 ≤ gi M a 4 ∧ gi M a 4 ≤ 2000 ∧ r = .inr (vi (mKow M a b), M)
theorem E_kow {C : mC} {t : mT} {pc : Nat} {ls : List mV} {M : mM} {Q : mV → mM → Prop} {a b : Nat} (h : mLk t pc = o_kow) (h0 : ls[0]? = some (vr (some a))) (h1 : kd M a = 8) (h2 : gr M a 5 = some b) (h3 : kd M b = 13) (h4 : 0 ≤ gi M a 3) (h5 : gi M a 3 ≤ gi M a 4) (h6 : gi M a 4 ≤ 2000) : WP C t pc ls [] M Q = Q (vi (mKow M a b)) M := WP_ret (fun r => by
  rw [h]
  constructor
  · rintro ⟨a', b', e0, -, -, e2, -, -, -, -, h7⟩
    rw [h0] at e0
    cases e0
    rw [h2] at e2
    cases e2
    exact h7
  · exact fun h7 => ⟨a, b, h0, rfl, h1, h2, h3, h4, h5, h6, h7⟩)
