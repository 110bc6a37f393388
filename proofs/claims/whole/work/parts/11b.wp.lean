section EQB
variable {C : mC} {t : mT} {pc n tg : Nat} {ls st : List mV} {M : mM} {Q : mV → mM → Prop} {x y : Int}
theorem E_if0 (h : mLk t pc = o_if 0 tg n) : WP C t pc ls (vi x :: st) M Q = if x = 0 then WP C t tg ls st M Q else WP C t n ls st M Q := @E_if C t pc n ls st M Q 0 tg x h (inferInstanceAs (Decidable (x = 0)))
theorem E_if1 (h : mLk t pc = o_if 1 tg n) : WP C t pc ls (vi x :: st) M Q = if x = 0 then WP C t n ls st M Q else WP C t tg ls st M Q := by
  have e := @E_if C t pc n ls st M Q 1 tg x h (inferInstanceAs (Decidable (¬ x = 0)))
  rw [e]
  exact ite_not ..
theorem E_if2 (h : mLk t pc = o_if 2 tg n) : WP C t pc ls (vi x :: st) M Q = if x < 0 then WP C t tg ls st M Q else WP C t n ls st M Q := @E_if C t pc n ls st M Q 2 tg x h (inferInstanceAs (Decidable (x < 0)))
theorem E_if3 (h : mLk t pc = o_if 3 tg n) : WP C t pc ls (vi x :: st) M Q = if 0 ≤ x then WP C t tg ls st M Q else WP C t n ls st M Q := @E_if C t pc n ls st M Q 3 tg x h (inferInstanceAs (Decidable (0 ≤ x)))
theorem E_if4 (h : mLk t pc = o_if 4 tg n) : WP C t pc ls (vi x :: st) M Q = if 0 < x then WP C t tg ls st M Q else WP C t n ls st M Q := @E_if C t pc n ls st M Q 4 tg x h (inferInstanceAs (Decidable (0 < x)))
theorem E_if5 (h : mLk t pc = o_if 5 tg n) : WP C t pc ls (vi x :: st) M Q = if x ≤ 0 then WP C t tg ls st M Q else WP C t n ls st M Q := @E_if C t pc n ls st M Q 5 tg x h (inferInstanceAs (Decidable (x ≤ 0)))
theorem E_ic0 (h : mLk t pc = o_icmp 0 tg n) : WP C t pc ls (vi y :: vi x :: st) M Q = if x = y then WP C t tg ls st M Q else WP C t n ls st M Q := @E_icmp C t pc n ls st M Q 0 tg x y h (inferInstanceAs (Decidable (x = y)))
theorem E_ic1 (h : mLk t pc = o_icmp 1 tg n) : WP C t pc ls (vi y :: vi x :: st) M Q = if x = y then WP C t n ls st M Q else WP C t tg ls st M Q := by
  have e := @E_icmp C t pc n ls st M Q 1 tg x y h (inferInstanceAs (Decidable (¬ x = y)))
  rw [e]
  exact ite_not ..
theorem E_ic2 (h : mLk t pc = o_icmp 2 tg n) : WP C t pc ls (vi y :: vi x :: st) M Q = if x < y then WP C t tg ls st M Q else WP C t n ls st M Q := @E_icmp C t pc n ls st M Q 2 tg x y h (inferInstanceAs (Decidable (x < y)))
theorem E_ic3 (h : mLk t pc = o_icmp 3 tg n) : WP C t pc ls (vi y :: vi x :: st) M Q = if y ≤ x then WP C t tg ls st M Q else WP C t n ls st M Q := @E_icmp C t pc n ls st M Q 3 tg x y h (inferInstanceAs (Decidable (y ≤ x)))
theorem E_ic4 (h : mLk t pc = o_icmp 4 tg n) : WP C t pc ls (vi y :: vi x :: st) M Q = if y < x then WP C t tg ls st M Q else WP C t n ls st M Q := @E_icmp C t pc n ls st M Q 4 tg x y h (inferInstanceAs (Decidable (y < x)))
theorem E_ic5 (h : mLk t pc = o_icmp 5 tg n) : WP C t pc ls (vi y :: vi x :: st) M Q = if x ≤ y then WP C t tg ls st M Q else WP C t n ls st M Q := @E_icmp C t pc n ls st M Q 5 tg x y h (inferInstanceAs (Decidable (x ≤ y)))
end EQB
/-- the word of a tape's token: the kind of it -/
def mBt (M : mM) (a b : Nat) (p : Int) : Int := if 0 ≤ p ∧ p < gi M a 0 ∧ p < ln M b then gi M b p.toNat else 0
def mSpl (M : mM) (a b : Nat) (w : List Int) : Bool := decide (gi M a 4 - gi M a 3 = w.length) && (List.range w.length).all (fun i => decide (mBt M a b (gi M a 3 + i) = w.getD i 0))
def mKow (M : mM) (a b : Nat) : Int :=
  if mSpl M a b [119, 105, 115, 104] then 23 else if mSpl M a b [110, 101, 118, 101, 114] then 24 else if mSpl M a b [105, 102] then 25 else if mSpl M a b [111, 114] then 11 else if mSpl M a b [97, 110, 100] then 12
  else if mSpl M a b [108, 105, 118, 101] then 9 else if mSpl M a b [102, 105, 114, 115, 116] then 10 else if mSpl M a b [116, 105, 116, 108, 101] then 2 else if mSpl M a b [101, 112, 105, 115, 111, 100, 101] then 3 else if mSpl M a b [99, 104, 97, 110, 110, 101, 108] then 4
  else if mSpl M a b [102, 114, 111, 109] then 5 else if mSpl M a b [117, 110, 116, 105, 108] then 6 else if mSpl M a b [108, 101, 110, 103, 116, 104] then 7 else if mSpl M a b [116, 114, 117, 115, 116] then 8 else 0
/-- kindOfWord as one operation -/
def o_kow : mO := fun _ ls st M r => ∃ a b, ls[0]? = some (vr (some a)) ∧ st = [] ∧ kd M a = 8 ∧ gr M a 5 = some b ∧ kd M b = 13 ∧ 0 ≤ gi M a 3 ∧ gi M a 3 ≤ gi M a 4 ∧ gi M a 4 ≤ 2000 ∧ r = .inr (vi (mKow M a b), M)
theorem E_kow {C : mC} {t : mT} {pc : Nat} {ls : List mV} {M : mM} {Q : mV → mM → Prop} {a b : Nat} (h : mLk t pc = o_kow) (h0 : ls[0]? = some (vr (some a))) (h1 : kd M a = 8) (h2 : gr M a 5 = some b) (h3 : kd M b = 13) (h4 : 0 ≤ gi M a 3) (h5 : gi M a 3 ≤ gi M a 4) (h6 : gi M a 4 ≤ 2000) : WP C t pc ls [] M Q = Q (vi (mKow M a b)) M := WP_ret (fun r => by
  rw [h]
  constructor
  · rintro ⟨a', b', e0, -, -, e2, -, -, -, -, h7⟩
    rw [h0] at e0
    cases e0
    rw [h2] at e2
    cases e2
    exact h7
  · exact fun h7 => ⟨a, b, h0, rfl, h1, h2, h3, h4, h5, h6, h7⟩)
/-! Math.max and Math.min as operations -/
def o_mm (f : Int → Int → Int) (n : Nat) : mO := fun _ ls st M r => ∃ x y st', st = vi y :: vi x :: st' ∧ (st'.map mCat).sum ≤ 8 ∧ r = .inl (n, ls, vi (f x y) :: st', M)
def mMax (x y : Int) : Int := if x < y then y else x
def mMin (x y : Int) : Int := if y < x then y else x
theorem E_mm {C : mC} {t : mT} {pc n : Nat} {ls st : List mV} {M : mM} {Q : mV → mM → Prop} {f : Int → Int → Int} {x y : Int} (h : mLk t pc = o_mm f n) : WP C t pc ls (vi y :: vi x :: st) M Q = (cs st ∧ WP C t n ls (vi (f x y) :: st) M Q) := WP_if (x := (n, ls, vi (f x y) :: st, M)) (fun r => by
  rw [h]
  constructor
  · rintro ⟨x', y', st', h1, h2, h3⟩
    cases h1
    exact ⟨h2, h3⟩
  · exact fun h2 => ⟨x, y, st, rfl, h2.1, h2.2⟩)
theorem sn_max {F : mF} {I : mI} {pc n idx : Nat} (h1 : Cond.methodLink I.1 idx Lib.Math.max.name ∈ TB) (h2 : Cond.static Lib.Math.max.name ∈ TB) (h3 : Cond.initialized "java/lang/Math" ∈ TB) (h4 : Cond.code Lib.Math.max.name Lib.Math.max.code 2 (some .int) ∈ TB) (hd : decode I.2.1 pc = .ok (.invokestatic idx, 3)) (hn : pc + 3 = n) : mSnd F I pc (o_mm mMax n) := by
  subst hn
  intro l G d C hC ls st M hok
  refine ⟨fun x' h => ?_, fun v M' h => ?_⟩
  · obtain ⟨x, y, st', rfl, hcat, h9⟩ := h
    cases h9
    have hy : inR y := hok.2.1 (vi y) List.mem_cons_self
    have hxr : inR x := hok.2.1 (vi x) (List.mem_cons_of_mem _ List.mem_cons_self)
    refine ⟨⟨hok.1, fun v hv => ?_, hok.2.2⟩, Nat.le_refl _, Nat.le_refl _, ?_⟩
    · rcases List.mem_cons.mp hv with rfl | hv
      · show inR (mMax x y)
        unfold mMax
        split
        · exact hy
        · exact hxr
      · exact hok.2.1 v (List.mem_cons_of_mem _ (List.mem_cons_of_mem _ hv))
    · intro p e R s m args below meth c Q n0 z0 hx hb1 hb2 hk H locs lm cells slots hP hz hS hl hc hs
      have hts := hx.2.2.2.2.2.2.1
      have hr1 := hx.2.2.2.2.2.2.2.2.2.1
      have hr2 := hx.2.2.2.2.2.2.2.2.2.2.1
      have hc' : nx M = n0 + cells := hc
      have hs' : zs M = z0 + slots := hs
      have hb1' : nx M ≤ n0 + R.cells := hb1
      have hb2' : zs M ≤ z0 + R.slots := hb2
      have hcat' := tv_cats G st'
      have hw : W p l e R s m args below meth c H locs cells slots Q (F0 m (pc + 3) lm (.int (Int32.ofInt (mMax x y)) :: st'.map (tv G))) := hk H locs lm cells slots hP hz hS hl hc hs
      have he : Int32.ofInt (mMax x y) = if Int32.ofInt x < Int32.ofInt y then Int32.ofInt y else Int32.ofInt x := by
        unfold mMax
        by_cases q : x < y
        · rw [if_pos q, if_pos ((i32_lt hxr hy).mpr q)]
        · rw [if_neg q, if_neg (fun w => q ((i32_lt hxr hy).mp w))]
      rw [he] at hw
      exact va_mmax hx.1 hx.2.1 (by rw [hx.2.2.1, ← hok.2.2.2]; exact hl.1.symm) hx.2.2.2.2.2.1 (hts _ h1) (hts _ h2) (hts _ h3) (hts _ h4) (by omega) (by omega) (by omega) (by omega) hd hw
  · obtain ⟨x, y, st', -, -, h9⟩ := h
    cases h9
theorem sn_min {F : mF} {I : mI} {pc n idx : Nat} (h1 : Cond.methodLink I.1 idx Lib.Math.min.name ∈ TB) (h2 : Cond.static Lib.Math.min.name ∈ TB) (h3 : Cond.initialized "java/lang/Math" ∈ TB) (h4 : Cond.code Lib.Math.min.name Lib.Math.min.code 2 (some .int) ∈ TB) (hd : decode I.2.1 pc = .ok (.invokestatic idx, 3)) (hn : pc + 3 = n) : mSnd F I pc (o_mm mMin n) := by
  subst hn
  intro l G d C hC ls st M hok
  refine ⟨fun x' h => ?_, fun v M' h => ?_⟩
  · obtain ⟨x, y, st', rfl, hcat, h9⟩ := h
    cases h9
    have hy : inR y := hok.2.1 (vi y) List.mem_cons_self
    have hxr : inR x := hok.2.1 (vi x) (List.mem_cons_of_mem _ List.mem_cons_self)
    refine ⟨⟨hok.1, fun v hv => ?_, hok.2.2⟩, Nat.le_refl _, Nat.le_refl _, ?_⟩
    · rcases List.mem_cons.mp hv with rfl | hv
      · show inR (mMin x y)
        unfold mMin
        split
        · exact hy
        · exact hxr
      · exact hok.2.1 v (List.mem_cons_of_mem _ (List.mem_cons_of_mem _ hv))
    · intro p e R s m args below meth c Q n0 z0 hx hb1 hb2 hk H locs lm cells slots hP hz hS hl hc hs
      have hts := hx.2.2.2.2.2.2.1
      have hr1 := hx.2.2.2.2.2.2.2.2.2.1
      have hr2 := hx.2.2.2.2.2.2.2.2.2.2.1
      have hc' : nx M = n0 + cells := hc
      have hs' : zs M = z0 + slots := hs
      have hb1' : nx M ≤ n0 + R.cells := hb1
      have hb2' : zs M ≤ z0 + R.slots := hb2
      have hcat' := tv_cats G st'
      have hw : W p l e R s m args below meth c H locs cells slots Q (F0 m (pc + 3) lm (.int (Int32.ofInt (mMin x y)) :: st'.map (tv G))) := hk H locs lm cells slots hP hz hS hl hc hs
      have he : Int32.ofInt (mMin x y) = if Int32.ofInt y < Int32.ofInt x then Int32.ofInt y else Int32.ofInt x := by
        unfold mMin
        by_cases q : y < x
        · rw [if_pos q, if_pos ((i32_lt hy hxr).mpr q)]
        · rw [if_neg q, if_neg (fun w => q ((i32_lt hy hxr).mp w))]
      rw [he] at hw
      exact va_mmin hx.1 hx.2.1 (by rw [hx.2.2.1, ← hok.2.2.2]; exact hl.1.symm) hx.2.2.2.2.2.1 (hts _ h1) (hts _ h2) (hts _ h3) (hts _ h4) (by omega) (by omega) (by omega) (by omega) hd hw
  · obtain ⟨x, y, st', -, -, h9⟩ := h
    cases h9
