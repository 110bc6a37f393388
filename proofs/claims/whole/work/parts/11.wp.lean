/-! ===== weakest preconditions over the small machine ===== -/
def WP (C : mC) (t : mT) (pc : Nat) (ls st : List mV) (M : mM) (Q : mV → mM → Prop) : Prop := ∃ k r, mRun C t k (pc, ls, st, M) r ∧ Q r.1 r.2
def CP (C : mC) (y : Nat) (as : List mV) (M : mM) (Q : mV → mM → Prop) : Prop := ∃ r, C y as M r ∧ Q r.1 r.2
theorem WP_step {C : mC} {t : mT} {pc : Nat} {ls st : List mV} {M : mM} {Q : mV → mM → Prop} {x : mS} (h : ∀ r, mLk t pc C ls st M r ↔ r = .inl x) : WP C t pc ls st M Q = WP C t x.1 x.2.1 x.2.2.1 x.2.2.2 Q := by
  apply propext
  constructor
  · rintro ⟨k, r, hk, hq⟩
    cases k with
    | zero => exact hk.elim
    | succ k =>
      rcases hk with hk | ⟨x', h1, h2⟩
      · have := (h _).mp hk
        cases this
      · have := (h _).mp h1
        cases this
        exact ⟨k, r, h2, hq⟩
  · rintro ⟨k, r, hk, hq⟩
    exact ⟨k + 1, r, Or.inr ⟨x, (h _).mpr rfl, hk⟩, hq⟩
theorem WP_ret {C : mC} {t : mT} {pc : Nat} {ls st : List mV} {M : mM} {Q : mV → mM → Prop} {v : mV} {M' : mM} (h : ∀ r, mLk t pc C ls st M r ↔ r = .inr (v, M')) : WP C t pc ls st M Q = Q v M' := by
  apply propext
  constructor
  · rintro ⟨k, r, hk, hq⟩
    cases k with
    | zero => exact hk.elim
    | succ k =>
      rcases hk with hk | ⟨x', h1, h2⟩
      · have := (h _).mp hk
        cases this
        exact hq
      · have := (h _).mp h1
        cases this
  · intro hq
    exact ⟨1, (v, M'), Or.inl ((h _).mpr rfl), hq⟩
/-- with a condition -/
theorem WP_if {C : mC} {t : mT} {pc : Nat} {ls st : List mV} {M : mM} {Q : mV → mM → Prop} {x : mS} {c : Prop} (h : ∀ r, mLk t pc C ls st M r ↔ c ∧ r = .inl x) : WP C t pc ls st M Q = (c ∧ WP C t x.1 x.2.1 x.2.2.1 x.2.2.2 Q) := by
  apply propext
  constructor
  · rintro ⟨k, r, hk, hq⟩
    cases k with
    | zero => exact hk.elim
    | succ k =>
      rcases hk with hk | ⟨x', h1, h2⟩
      · have := ((h _).mp hk).2
        cases this
      · obtain ⟨hc, this⟩ := (h _).mp h1
        cases this
        exact ⟨hc, k, r, h2, hq⟩
  · rintro ⟨hc, k, r, hk, hq⟩
    exact ⟨k + 1, r, Or.inr ⟨x, (h _).mpr ⟨hc, rfl⟩, hk⟩, hq⟩
theorem WP_br {C : mC} {t : mT} {pc : Nat} {ls st : List mV} {M : mM} {Q : mV → mM → Prop} {x y : mS} {c : Prop} [Decidable c] (h : ∀ r, mLk t pc C ls st M r ↔ (c ∧ r = .inl x) ∨ (¬ c ∧ r = .inl y)) : WP C t pc ls st M Q = if c then WP C t x.1 x.2.1 x.2.2.1 x.2.2.2 Q else WP C t y.1 y.2.1 y.2.2.1 y.2.2.2 Q := by
  by_cases hc : c
  · rw [if_pos hc]
    refine WP_step (x := x) (fun r => ?_)
    rw [h]
    simp [hc]
  · rw [if_neg hc]
    refine WP_step (x := y) (fun r => ?_)
    rw [h]
    simp [hc]
theorem WP_call {C : mC} {t : mT} {pc y : Nat} {ls st as : List mV} {M : mM} {Q : mV → mM → Prop} {n : Nat} {f : mV → List mV} {c : mV → Prop} {c0 : Prop} (h : ∀ r, mLk t pc C ls st M r ↔ c0 ∧ ∃ v M', C y as M (v, M') ∧ c v ∧ r = .inl (n, ls, f v, M')) : WP C t pc ls st M Q = (c0 ∧ CP C y as M (fun v M' => c v ∧ WP C t n ls (f v) M' Q)) := by
  apply propext
  constructor
  · rintro ⟨k, r, hk, hq⟩
    cases k with
    | zero => exact hk.elim
    | succ k =>
      rcases hk with hk | ⟨x', h1, h2⟩
      · obtain ⟨-, v, M', -, -, this⟩ := (h _).mp hk
        cases this
      · obtain ⟨h0, v, M', hc, h3, this⟩ := (h _).mp h1
        cases this
        exact ⟨h0, (v, M'), hc, h3, k, r, h2, hq⟩
  · rintro ⟨h0, ⟨v, M'⟩, hc, h3, k, r, hk, hq⟩
    exact ⟨k + 1, r, Or.inr ⟨_, (h _).mpr ⟨h0, v, M', hc, h3, rfl⟩, hk⟩, hq⟩
theorem CP_mono {C : mC} {y : Nat} {as : List mV} {M : mM} {Q Q' : mV → mM → Prop} (h : ∀ v M', Q v M' → Q' v M') (hc : CP C y as M Q) : CP C y as M Q' := by
  obtain ⟨r, h1, h2⟩ := hc
  exact ⟨r, h1, h _ _ h2⟩
theorem WP_mono {C : mC} {t : mT} {pc : Nat} {ls st : List mV} {M : mM} {Q Q' : mV → mM → Prop} (h : ∀ v M', Q v M' → Q' v M') (hc : WP C t pc ls st M Q) : WP C t pc ls st M Q' := by
  obtain ⟨k, r, h1, h2⟩ := hc
  exact ⟨k, r, h1, h _ _ h2⟩
theorem CP_of {P : mP} {d y n : Nat} {t : mT} {as : List mV} {M : mM} {Q : mV → mM → Prop} (hp : P y = (t, n)) (hl : (mEnt as).length ≤ n) : CP (mCall P (d + 1)) y as M Q = WP (mCall P d) t 0 (mPad as n) [] M Q := by
  apply propext
  constructor
  · rintro ⟨r, ⟨-, k, hk⟩, hq⟩
    rw [hp] at hk
    exact ⟨k, r, hk, hq⟩
  · rintro ⟨k, r, hk, hq⟩
    exact ⟨r, ⟨by rw [hp]; exact hl, k, by rw [hp]; exact hk⟩, hq⟩
/-- a value that is no long -/
def nl (v : mV) : Prop := ∀ z, v ≠ vl z
theorem nl_i (z : Int) : nl (vi z) = True := eq_true (fun _ h => by cases h)
theorem nl_r (o : Option Nat) : nl (vr o) = True := eq_true (fun _ h => by cases h)
theorem nl_j : nl vj = True := eq_true (fun _ h => by cases h)
theorem nj_i (z : Int) : (vi z ≠ vj) = True := eq_true (fun h => by cases h)
theorem nj_l (z : Int) : (vl z ≠ vj) = True := eq_true (fun h => by cases h)
theorem nj_r (o : Option Nat) : (vr o ≠ vj) = True := eq_true (fun h => by cases h)
theorem vi_inj (a b : Int) : (vi a = vi b) = (a = b) := propext ⟨fun h => by cases h; rfl, fun h => by rw [h]⟩
theorem vl_inj (a b : Int) : (vl a = vl b) = (a = b) := propext ⟨fun h => by cases h; rfl, fun h => by rw [h]⟩
theorem vr_inj (a b : Option Nat) : (vr a = vr b) = (a = b) := propext ⟨fun h => by cases h; rfl, fun h => by rw [h]⟩
theorem some_inj' {a b : Nat} : (some a = some b) = (a = b) := propext Option.some_inj
/-- little enough below the arguments -/
def cs (st : List mV) : Prop := (st.map mCat).sum ≤ 8
theorem mCat_le (v : mV) : mCat v ≤ 2 := by
  rcases v with _ | z | z | o <;> simp [mCat]
theorem cs_0 : cs [] = True := eq_true (by simp [cs])
theorem cs_1 (a : mV) : cs [a] = True := eq_true (by
  have := mCat_le a
  simp only [cs, List.map_cons, List.map_nil, List.sum_cons, List.sum_nil]
  omega)
theorem cs_2 (a b : mV) : cs [a, b] = True := eq_true (by
  have := mCat_le a
  have := mCat_le b
  simp only [cs, List.map_cons, List.map_nil, List.sum_cons, List.sum_nil]
  omega)
theorem cs_3 (a b c : mV) : cs [a, b, c] = True := eq_true (by
  have := mCat_le a
  have := mCat_le b
  have := mCat_le c
  simp only [cs, List.map_cons, List.map_nil, List.sum_cons, List.sum_nil]
  omega)
theorem cs_4 (a b c e : mV) : cs [a, b, c, e] = True := eq_true (by
  have := mCat_le a
  have := mCat_le b
  have := mCat_le c
  have := mCat_le e
  simp only [cs, List.map_cons, List.map_nil, List.sum_cons, List.sum_nil]
  omega)
theorem mEnt_i (z : Int) (t : List mV) : mEnt (vi z :: t) = vi z :: mEnt t := rfl
theorem mEnt_l (z : Int) (t : List mV) : mEnt (vl z :: t) = vl z :: vj :: mEnt t := rfl
theorem mEnt_r (o : Option Nat) (t : List mV) : mEnt (vr o :: t) = vr o :: mEnt t := rfl
theorem mEnt_0 : mEnt [] = [] := rfl
section EQS
variable {C : mC} {t : mT} {pc n : Nat} {ls st : List mV} {M : mM} {Q : mV → mM → Prop}
theorem E_const {v : mV} (h : mLk t pc = o_const v n) : WP C t pc ls st M Q = WP C t n ls (v :: st) M Q := WP_step (x := (n, ls, v :: st, M)) (fun r => by rw [h]; exact Iff.rfl)
theorem E_iload {k : Nat} {z : Int} (h : mLk t pc = o_iload k n) (hk : ls[k]? = some (vi z)) : WP C t pc ls st M Q = WP C t n ls (vi z :: st) M Q := WP_step (x := (n, ls, vi z :: st, M)) (fun r => by
  rw [h]
  constructor
  · rintro ⟨z', h1, h2⟩
    have e : z = z' := by rw [hk] at h1; cases h1; rfl
    subst e
    exact h2
  · exact fun h2 => ⟨z, hk, h2⟩)
theorem E_lload {k : Nat} {z : Int} (h : mLk t pc = o_lload k n) (hk : ls[k]? = some (vl z)) : WP C t pc ls st M Q = WP C t n ls (vl z :: st) M Q := WP_step (x := (n, ls, vl z :: st, M)) (fun r => by
  rw [h]
  constructor
  · rintro ⟨z', h1, h2⟩
    have e : z = z' := by rw [hk] at h1; cases h1; rfl
    subst e
    exact h2
  · exact fun h2 => ⟨z, hk, h2⟩)
theorem E_aload {k : Nat} {z : Option Nat} (h : mLk t pc = o_aload k n) (hk : ls[k]? = some (vr z)) : WP C t pc ls st M Q = WP C t n ls (vr z :: st) M Q := WP_step (x := (n, ls, vr z :: st, M)) (fun r => by
  rw [h]
  constructor
  · rintro ⟨z', h1, h2⟩
    have e : z = z' := by rw [hk] at h1; cases h1; rfl
    subst e
    exact h2
  · exact fun h2 => ⟨z, hk, h2⟩)
theorem okS_0 : okS ls 0 := fun j z h => by omega
theorem okS_of {k : Nat} {v : mV} (hk : ls[k]? = some v) (hv : nl v) : okS ls (k + 1) := fun j z h e => by
  have : j = k := by omega
  subst this
  rw [hk] at e
  exact hv z (Option.some.inj e)
theorem E_istore {k : Nat} {z : Int} (h : mLk t pc = o_istore k n) (hk : k < ls.length) (hs : okS ls k) : WP C t pc ls (vi z :: st) M Q = WP C t n (ls.set k (vi z)) st M Q := WP_step (x := (n, ls.set k (vi z), st, M)) (fun r => by
  rw [h]
  constructor
  · rintro ⟨z', st', h1, h2, h3, h4⟩
    cases h1
    exact h4
  · exact fun h2 => ⟨z, st, rfl, hk, hs, h2⟩)
theorem E_astore {k : Nat} {z : Option Nat} (h : mLk t pc = o_astore k n) (hk : k < ls.length) (hs : okS ls k) : WP C t pc ls (vr z :: st) M Q = WP C t n (ls.set k (vr z)) st M Q := WP_step (x := (n, ls.set k (vr z), st, M)) (fun r => by
  rw [h]
  constructor
  · rintro ⟨z', st', h1, h2, h3, h4⟩
    cases h1
    exact h4
  · exact fun h2 => ⟨z, st, rfl, hk, hs, h2⟩)
theorem E_lstore {k : Nat} {z : Int} (h : mLk t pc = o_lstore k n) (hk : k + 1 < ls.length) (hs : okS ls k) : WP C t pc ls (vl z :: st) M Q = WP C t n ((ls.set k (vl z)).set (k + 1) vj) st M Q := WP_step (x := (n, (ls.set k (vl z)).set (k + 1) vj, st, M)) (fun r => by
  rw [h]
  constructor
  · rintro ⟨z', st', h1, h2, h3, h4⟩
    cases h1
    exact h4
  · exact fun h2 => ⟨z, st, rfl, hk, hs, h2⟩)
theorem E_iinc {k : Nat} {z dz : Int} (h : mLk t pc = o_iinc k dz n) (hk : ls[k]? = some (vi z)) (hs : okS ls k) : WP C t pc ls st M Q = WP C t n (ls.set k (vi (wr (z + dz)))) st M Q := WP_step (x := (n, ls.set k (vi (wr (z + dz))), st, M)) (fun r => by
  rw [h]
  constructor
  · rintro ⟨z', h1, h2, h3⟩
    have e : z = z' := by rw [hk] at h1; cases h1; rfl
    subst e
    exact h3
  · exact fun h2 => ⟨z, hk, hs, h2⟩)
theorem E_bin {f : Int32 → Int32 → Int32} {x y : Int} (h : mLk t pc = o_bin f n) : WP C t pc ls (vi y :: vi x :: st) M Q = WP C t n ls (vi (f (Int32.ofInt x) (Int32.ofInt y)).toInt :: st) M Q := WP_step (x := (n, ls, vi (f (Int32.ofInt x) (Int32.ofInt y)).toInt :: st, M)) (fun r => by
  rw [h]
  constructor
  · rintro ⟨x', y', st', h1, h2⟩
    cases h1
    exact h2
  · exact fun h2 => ⟨x, y, st, rfl, h2⟩)
theorem E_iadd {x y : Int} (h : mLk t pc = o_bin (fun x y => x + y) n) : WP C t pc ls (vi y :: vi x :: st) M Q = WP C t n ls (vi (wr (x + y)) :: st) M Q := by
  rw [E_bin h]
  show WP C t n ls (vi (Int32.ofInt x + Int32.ofInt y).toInt :: st) M Q = _
  rw [← Int32.ofInt_add]
  rfl
theorem E_isub {x y : Int} (h : mLk t pc = o_bin (fun x y => x - y) n) : WP C t pc ls (vi y :: vi x :: st) M Q = WP C t n ls (vi (wr (x - y)) :: st) M Q := by
  rw [E_bin h]
  show WP C t n ls (vi (Int32.ofInt x - Int32.ofInt y).toInt :: st) M Q = _
  rw [← Int32.ofInt_sub]
  rfl
theorem E_imul {x y : Int} (h : mLk t pc = o_bin (fun x y => x * y) n) : WP C t pc ls (vi y :: vi x :: st) M Q = WP C t n ls (vi (wr (x * y)) :: st) M Q := by
  rw [E_bin h]
  show WP C t n ls (vi (Int32.ofInt x * Int32.ofInt y).toInt :: st) M Q = _
  rw [← Int32.ofInt_mul]
  rfl
theorem E_lbin {f : Int64 → Int64 → Int64} {x y : Int} (h : mLk t pc = o_lbin f n) : WP C t pc ls (vl y :: vl x :: st) M Q = WP C t n ls (vl (f (Int64.ofInt x) (Int64.ofInt y)).toInt :: st) M Q := WP_step (x := (n, ls, vl (f (Int64.ofInt x) (Int64.ofInt y)).toInt :: st, M)) (fun r => by
  rw [h]
  constructor
  · rintro ⟨x', y', st', h1, h2⟩
    cases h1
    exact h2
  · exact fun h2 => ⟨x, y, st, rfl, h2⟩)
theorem E_ladd {x y : Int} (h : mLk t pc = o_lbin (fun x y => x + y) n) : WP C t pc ls (vl y :: vl x :: st) M Q = WP C t n ls (vl (wl (x + y)) :: st) M Q := by
  rw [E_lbin h]
  show WP C t n ls (vl (Int64.ofInt x + Int64.ofInt y).toInt :: st) M Q = _
  rw [← Int64.ofInt_add]
  rfl
theorem E_lmul {x y : Int} (h : mLk t pc = o_lbin (fun x y => x * y) n) : WP C t pc ls (vl y :: vl x :: st) M Q = WP C t n ls (vl (wl (x * y)) :: st) M Q := by
  rw [E_lbin h]
  show WP C t n ls (vl (Int64.ofInt x * Int64.ofInt y).toInt :: st) M Q = _
  rw [← Int64.ofInt_mul]
  rfl
theorem E_un {f : Int → Int} {x : Int} (h : mLk t pc = o_un f n) : WP C t pc ls (vi x :: st) M Q = WP C t n ls (vi (f x) :: st) M Q := WP_step (x := (n, ls, vi (f x) :: st, M)) (fun r => by
  rw [h]
  constructor
  · rintro ⟨x', st', h1, h2⟩
    cases h1
    exact h2
  · exact fun h2 => ⟨x, st, rfl, h2⟩)
theorem E_i2l {x : Int} (h : mLk t pc = o_i2l n) : WP C t pc ls (vi x :: st) M Q = WP C t n ls (vl x :: st) M Q := WP_step (x := (n, ls, vl x :: st, M)) (fun r => by
  rw [h]
  constructor
  · rintro ⟨x', st', h1, h2⟩
    cases h1
    exact h2
  · exact fun h2 => ⟨x, st, rfl, h2⟩)
theorem E_lcmp {x y : Int} (h : mLk t pc = o_lcmp n) : WP C t pc ls (vl y :: vl x :: st) M Q = WP C t n ls (vi (if y < x then 1 else if x = y then 0 else -1) :: st) M Q := WP_step (x := (n, ls, vi (if y < x then 1 else if x = y then 0 else -1) :: st, M)) (fun r => by
  rw [h]
  constructor
  · rintro ⟨x', y', st', h1, h2⟩
    cases h1
    exact h2
  · exact fun h2 => ⟨x, y, st, rfl, h2⟩)
theorem E_dup {v : mV} (h : mLk t pc = o_dup n) (hv : nl v) : WP C t pc ls (v :: st) M Q = WP C t n ls (v :: v :: st) M Q := WP_step (x := (n, ls, v :: v :: st, M)) (fun r => by
  rw [h]
  constructor
  · rintro ⟨x', st', h1, h3, h2⟩
    cases h1
    exact h2
  · exact fun h2 => ⟨v, st, rfl, hv, h2⟩)
theorem E_dup2 {v w : mV} (h : mLk t pc = o_dup2 n) (hv : nl v) (hw : nl w) : WP C t pc ls (v :: w :: st) M Q = WP C t n ls (v :: w :: v :: w :: st) M Q := WP_step (x := (n, ls, v :: w :: v :: w :: st, M)) (fun r => by
  rw [h]
  constructor
  · rintro ⟨x', y', st', h1, h3, h4, h2⟩
    cases h1
    exact h2
  · exact fun h2 => ⟨v, w, st, rfl, hv, hw, h2⟩)
theorem E_goto (h : mLk t pc = o_goto n) : WP C t pc ls st M Q = WP C t n ls st M Q := WP_step (x := (n, ls, st, M)) (fun r => by rw [h]; exact Iff.rfl)
theorem E_if {k tg : Nat} {x : Int} (h : mLk t pc = o_if k tg n) [Decidable (mCmp k x 0)] : WP C t pc ls (vi x :: st) M Q = if mCmp k x 0 then WP C t tg ls st M Q else WP C t n ls st M Q := WP_br (x := (tg, ls, st, M)) (y := (n, ls, st, M)) (fun r => by
  rw [h]
  constructor
  · rintro ⟨x', st', h1, h2⟩
    cases h1
    exact h2
  · exact fun h2 => ⟨x, st, rfl, h2⟩)
theorem E_icmp {k tg : Nat} {x y : Int} (h : mLk t pc = o_icmp k tg n) [Decidable (mCmp k x y)] : WP C t pc ls (vi y :: vi x :: st) M Q = if mCmp k x y then WP C t tg ls st M Q else WP C t n ls st M Q := WP_br (x := (tg, ls, st, M)) (y := (n, ls, st, M)) (fun r => by
  rw [h]
  constructor
  · rintro ⟨x', y', st', h1, h2⟩
    cases h1
    exact h2
  · exact fun h2 => ⟨x, y, st, rfl, h2⟩)
theorem E_ifnull {tg : Nat} {o : Option Nat} (h : mLk t pc = o_ifnull tg n) : WP C t pc ls (vr o :: st) M Q = if o = none then WP C t tg ls st M Q else WP C t n ls st M Q := WP_br (x := (tg, ls, st, M)) (y := (n, ls, st, M)) (fun r => by
  rw [h]
  constructor
  · rintro ⟨x', st', h1, h2⟩
    cases h1
    exact h2
  · exact fun h2 => ⟨o, st, rfl, h2⟩)
theorem E_sw {ps : List (Int × Nat)} {dd : Nat} {x : Int} (h : mLk t pc = o_sw ps dd) : WP C t pc ls (vi x :: st) M Q = WP C t (mSw ps dd x) ls st M Q := WP_step (x := (mSw ps dd x, ls, st, M)) (fun r => by
  rw [h]
  constructor
  · rintro ⟨x', st', h1, h2⟩
    cases h1
    exact h2
  · exact fun h2 => ⟨x, st, rfl, h2⟩)
theorem E_geti {c f a : Nat} (h : mLk t pc = o_geti c f n) : WP C t pc ls (vr (some a) :: st) M Q = (kd M a = c ∧ WP C t n ls (vi (gi M a f) :: st) M Q) := WP_if (x := (n, ls, vi (gi M a f) :: st, M)) (fun r => by
  rw [h]
  constructor
  · rintro ⟨x', st', h1, h2, h3⟩
    cases h1
    exact ⟨h2, h3⟩
  · exact fun h2 => ⟨a, st, rfl, h2.1, h2.2⟩)
theorem E_getr {c f a : Nat} (h : mLk t pc = o_getr c f n) : WP C t pc ls (vr (some a) :: st) M Q = (kd M a = c ∧ WP C t n ls (vr (gr M a f) :: st) M Q) := WP_if (x := (n, ls, vr (gr M a f) :: st, M)) (fun r => by
  rw [h]
  constructor
  · rintro ⟨x', st', h1, h2, h3⟩
    cases h1
    exact ⟨h2, h3⟩
  · exact fun h2 => ⟨a, st, rfl, h2.1, h2.2⟩)
theorem E_puti {c f a : Nat} {z : Int} (h : mLk t pc = o_puti c f n) : WP C t pc ls (vi z :: vr (some a) :: st) M Q = (kd M a = c ∧ WP C t n ls st (si M a f z) Q) := WP_if (x := (n, ls, st, si M a f z)) (fun r => by
  rw [h]
  constructor
  · rintro ⟨a', z', st', h1, h2, h3⟩
    cases h1
    exact ⟨h2, h3⟩
  · exact fun h2 => ⟨a, z, st, rfl, h2.1, h2.2⟩)
theorem E_putz {c f a : Nat} {z : Int} (h : mLk t pc = o_putz c f n) : WP C t pc ls (vi z :: vr (some a) :: st) M Q = ((kd M a = c ∧ (z = 0 ∨ z = 1)) ∧ WP C t n ls st (si M a f z) Q) := WP_if (x := (n, ls, st, si M a f z)) (fun r => by
  rw [h]
  constructor
  · rintro ⟨a', z', st', h1, h2, h4, h3⟩
    cases h1
    exact ⟨⟨h2, h4⟩, h3⟩
  · exact fun h2 => ⟨a, z, st, rfl, h2.1.1, h2.1.2, h2.2⟩)
theorem E_putr {c f a : Nat} {o : Option Nat} (h : mLk t pc = o_putr c f n) : WP C t pc ls (vr o :: vr (some a) :: st) M Q = (kd M a = c ∧ WP C t n ls st (sr M a f o) Q) := WP_if (x := (n, ls, st, sr M a f o)) (fun r => by
  rw [h]
  constructor
  · rintro ⟨a', z', st', h1, h2, h3⟩
    cases h1
    exact ⟨h2, h3⟩
  · exact fun h2 => ⟨a, o, st, rfl, h2.1, h2.2⟩)
theorem E_ald {k a : Nat} {i : Int} (h : mLk t pc = o_ald k n) : WP C t pc ls (vi i :: vr (some a) :: st) M Q = ((kd M a = k ∧ 0 ≤ i ∧ i < ln M a) ∧ WP C t n ls (vi (gi M a i.toNat) :: st) M Q) := WP_if (x := (n, ls, vi (gi M a i.toNat) :: st, M)) (fun r => by
  rw [h]
  constructor
  · rintro ⟨a', i', st', h1, h2, h3, h4, h5⟩
    cases h1
    exact ⟨⟨h2, h3, h4⟩, h5⟩
  · exact fun h2 => ⟨a, i, st, rfl, h2.1.1, h2.1.2.1, h2.1.2.2, h2.2⟩)
theorem E_lald {a : Nat} {i : Int} (h : mLk t pc = o_lald n) : WP C t pc ls (vi i :: vr (some a) :: st) M Q = ((kd M a = 15 ∧ 0 ≤ i ∧ i < ln M a) ∧ WP C t n ls (vl (gi M a i.toNat) :: st) M Q) := WP_if (x := (n, ls, vl (gi M a i.toNat) :: st, M)) (fun r => by
  rw [h]
  constructor
  · rintro ⟨a', i', st', h1, h2, h3, h4, h5⟩
    cases h1
    exact ⟨⟨h2, h3, h4⟩, h5⟩
  · exact fun h2 => ⟨a, i, st, rfl, h2.1.1, h2.1.2.1, h2.1.2.2, h2.2⟩)
theorem E_rald {k a : Nat} {i : Int} (h : mLk t pc = o_rald k n) : WP C t pc ls (vi i :: vr (some a) :: st) M Q = ((kd M a = k ∧ 0 ≤ i ∧ i < ln M a) ∧ WP C t n ls (vr (gr M a i.toNat) :: st) M Q) := WP_if (x := (n, ls, vr (gr M a i.toNat) :: st, M)) (fun r => by
  rw [h]
  constructor
  · rintro ⟨a', i', st', h1, h2, h3, h4, h5⟩
    cases h1
    exact ⟨⟨h2, h3, h4⟩, h5⟩
  · exact fun h2 => ⟨a, i, st, rfl, h2.1.1, h2.1.2.1, h2.1.2.2, h2.2⟩)
theorem E_iast {a : Nat} {i z : Int} (h : mLk t pc = o_iast n) : WP C t pc ls (vi z :: vi i :: vr (some a) :: st) M Q = ((kd M a = 14 ∧ 0 ≤ i ∧ i < ln M a) ∧ WP C t n ls st (si M a i.toNat z) Q) := WP_if (x := (n, ls, st, si M a i.toNat z)) (fun r => by
  rw [h]
  constructor
  · rintro ⟨a', i', z', st', h1, h2, h3, h4, h5⟩
    cases h1
    exact ⟨⟨h2, h3, h4⟩, h5⟩
  · exact fun h2 => ⟨a, i, z, st, rfl, h2.1.1, h2.1.2.1, h2.1.2.2, h2.2⟩)
theorem E_bast {a : Nat} {i z : Int} (h : mLk t pc = o_bast n) : WP C t pc ls (vi z :: vi i :: vr (some a) :: st) M Q = ((kd M a = 13 ∧ 0 ≤ i ∧ i < ln M a) ∧ WP C t n ls st (si M a i.toNat (wb z)) Q) := WP_if (x := (n, ls, st, si M a i.toNat (wb z))) (fun r => by
  rw [h]
  constructor
  · rintro ⟨a', i', z', st', h1, h2, h3, h4, h5⟩
    cases h1
    exact ⟨⟨h2, h3, h4⟩, h5⟩
  · exact fun h2 => ⟨a, i, z, st, rfl, h2.1.1, h2.1.2.1, h2.1.2.2, h2.2⟩)
theorem E_zast {a : Nat} {i z : Int} (h : mLk t pc = o_zast n) : WP C t pc ls (vi z :: vi i :: vr (some a) :: st) M Q = ((kd M a = 16 ∧ (0 ≤ i ∧ i < ln M a) ∧ (z = 0 ∨ z = 1)) ∧ WP C t n ls st (si M a i.toNat z) Q) := WP_if (x := (n, ls, st, si M a i.toNat z)) (fun r => by
  rw [h]
  constructor
  · rintro ⟨a', i', z', st', h1, h2, h3, h4, h6, h5⟩
    cases h1
    exact ⟨⟨h2, ⟨h3, h4⟩, h6⟩, h5⟩
  · exact fun h2 => ⟨a, i, z, st, rfl, h2.1.1, h2.1.2.1.1, h2.1.2.1.2, h2.1.2.2, h2.2⟩)
theorem E_last {a : Nat} {i z : Int} (h : mLk t pc = o_last n) : WP C t pc ls (vl z :: vi i :: vr (some a) :: st) M Q = ((kd M a = 15 ∧ 0 ≤ i ∧ i < ln M a) ∧ WP C t n ls st (si M a i.toNat z) Q) := WP_if (x := (n, ls, st, si M a i.toNat z)) (fun r => by
  rw [h]
  constructor
  · rintro ⟨a', i', z', st', h1, h2, h3, h4, h5⟩
    cases h1
    exact ⟨⟨h2, h3, h4⟩, h5⟩
  · exact fun h2 => ⟨a, i, z, st, rfl, h2.1.1, h2.1.2.1, h2.1.2.2, h2.2⟩)
theorem E_rast {k c a b : Nat} {i : Int} (h : mLk t pc = o_rast k c n) : WP C t pc ls (vr (some b) :: vi i :: vr (some a) :: st) M Q = (((kd M a = k ∧ kd M b = c) ∧ 0 ≤ i ∧ i < ln M a) ∧ WP C t n ls st (sr M a i.toNat (some b)) Q) := WP_if (x := (n, ls, st, sr M a i.toNat (some b))) (fun r => by
  rw [h]
  constructor
  · rintro ⟨a', i', z', st', h1, h2, h6, h3, h4, h5⟩
    cases h1
    exact ⟨⟨⟨h2, h6⟩, h3, h4⟩, h5⟩
  · exact fun h2 => ⟨a, i, b, st, rfl, h2.1.1.1, h2.1.1.2, h2.1.2.1, h2.1.2.2, h2.2⟩)
theorem E_alen {a : Nat} (h : mLk t pc = o_alen n) : WP C t pc ls (vr (some a) :: st) M Q = ((13 ≤ kd M a ∧ kd M a ≤ 21) ∧ WP C t n ls (vi (ln M a) :: st) M Q) := WP_if (x := (n, ls, vi (ln M a) :: st, M)) (fun r => by
  rw [h]
  constructor
  · rintro ⟨a', st', h1, h2, h3, h4⟩
    cases h1
    exact ⟨⟨h2, h3⟩, h4⟩
  · exact fun h2 => ⟨a, st, rfl, h2.1.1, h2.1.2, h2.2⟩)
theorem E_new {c w : Nat} (h : mLk t pc = o_new c w n) : WP C t pc ls st M Q = WP C t n ls (vr (some (nx M)) :: st) (al M c 0 w) Q := WP_step (x := (n, ls, vr (some (nx M)) :: st, al M c 0 w)) (fun r => by rw [h]; exact Iff.rfl)
theorem E_newa {k : Nat} {z : Int} (h : mLk t pc = o_newa k n) : WP C t pc ls (vi z :: st) M Q = ((0 ≤ z ∧ z ≤ 100000) ∧ WP C t n ls (vr (some (nx M)) :: st) (al M k z.toNat z.toNat) Q) := WP_if (x := (n, ls, vr (some (nx M)) :: st, al M k z.toNat z.toNat)) (fun r => by
  rw [h]
  constructor
  · rintro ⟨z', st', h1, h2, h3, h4⟩
    cases h1
    exact ⟨⟨h2, h3⟩, h4⟩
  · exact fun h2 => ⟨z, st, rfl, h2.1.1, h2.1.2, h2.2⟩)
theorem E_mna {x y : Int} (h : mLk t pc = o_mna n) : WP C t pc ls (vi y :: vi x :: st) M Q = ((0 ≤ x ∧ x ≤ 1000 ∧ 0 ≤ y ∧ y ≤ 1000) ∧ WP C t n ls (vr (some (nx M)) :: st) (al2 M x.toNat y.toNat) Q) := WP_if (x := (n, ls, vr (some (nx M)) :: st, al2 M x.toNat y.toNat)) (fun r => by
  rw [h]
  constructor
  · rintro ⟨x', y', st', h1, h2, h3, h4, h5, h6⟩
    cases h1
    exact ⟨⟨h2, h3, h4, h5⟩, h6⟩
  · exact fun h2 => ⟨x, y, st, rfl, h2.1.1, h2.1.2.1, h2.1.2.2.1, h2.1.2.2.2, h2.2⟩)
theorem E_objinit {a : Nat} (h : mLk t pc = o_objinit n) : WP C t pc ls (vr (some a) :: st) M Q = (cs st ∧ WP C t n ls st M Q) := WP_if (x := (n, ls, st, M)) (fun r => by
  rw [h]
  constructor
  · rintro ⟨a', st', h1, h2, h3⟩
    cases h1
    exact ⟨h2, h3⟩
  · exact fun h2 => ⟨a, st, rfl, h2.1, h2.2⟩)
theorem app_len {α : Type} {a b c e : List α} (h : a ++ b = c ++ e) (hl : a.length = c.length) : a = c ∧ b = e := List.append_inj h hl
theorem E_call {y k : Nat} {as : List mV} (h : mLk t pc = o_call y k true n) (hk : as.length = k) : WP C t pc ls (as.reverse ++ st) M Q = (cs st ∧ CP C y as M (fun v M' => v ≠ vj ∧ WP C t n ls (v :: st) M' Q)) := WP_call (f := fun v => v :: st) (c := fun v => v ≠ vj) (fun r => by
  rw [h]
  constructor
  · rintro ⟨as', st', v, M', h1, h2, h3, h4, h5, h6⟩
    obtain ⟨e1, e2⟩ := app_len h1 (by rw [List.length_reverse, List.length_reverse, hk, h2])
    have e1 := List.reverse_inj.mp e1
    subst e1
    subst e2
    exact ⟨h3, v, M', h4, h5, h6⟩
  · rintro ⟨h3, v, M', h4, h5, h6⟩
    exact ⟨as, st, v, M', rfl, hk, h3, h4, h5, h6⟩)
theorem E_callN {y k : Nat} {as : List mV} (h : mLk t pc = o_call y k false n) (hk : as.length = k) : WP C t pc ls (as.reverse ++ st) M Q = (cs st ∧ CP C y as M (fun v M' => v = vj ∧ WP C t n ls st M' Q)) := WP_call (f := fun _ => st) (c := fun v => v = vj) (fun r => by
  rw [h]
  constructor
  · rintro ⟨as', st', v, M', h1, h2, h3, h4, h5, h6⟩
    obtain ⟨e1, e2⟩ := app_len h1 (by rw [List.length_reverse, List.length_reverse, hk, h2])
    have e1 := List.reverse_inj.mp e1
    subst e1
    subst e2
    exact ⟨h3, v, M', h4, h5, h6⟩
  · rintro ⟨h3, v, M', h4, h5, h6⟩
    exact ⟨as, st, v, M', rfl, hk, h3, h4, h5, h6⟩)
theorem E_callv {y c k a : Nat} {as : List mV} (h : mLk t pc = o_callv y c k true n) (hk : as.length = k) : WP C t pc ls (as.reverse ++ (vr (some a) :: st)) M Q = ((kd M a = c ∧ cs st) ∧ CP C y (vr (some a) :: as) M (fun v M' => v ≠ vj ∧ WP C t n ls (v :: st) M' Q)) := WP_call (f := fun v => v :: st) (c := fun v => v ≠ vj) (fun r => by
  rw [h]
  constructor
  · rintro ⟨a', as', st', v, M', h1, h2, h7, h3, h4, h5, h6⟩
    obtain ⟨e1, e2⟩ := app_len h1 (by rw [List.length_reverse, List.length_reverse, hk, h2])
    have e1 := List.reverse_inj.mp e1
    subst e1
    cases e2
    exact ⟨⟨h7, h3⟩, v, M', h4, h5, h6⟩
  · rintro ⟨h3, v, M', h4, h5, h6⟩
    exact ⟨a, as, st, v, M', rfl, hk, h3.1, h3.2, h4, h5, h6⟩)
theorem E_callvN {y c k a : Nat} {as : List mV} (h : mLk t pc = o_callv y c k false n) (hk : as.length = k) : WP C t pc ls (as.reverse ++ (vr (some a) :: st)) M Q = ((kd M a = c ∧ cs st) ∧ CP C y (vr (some a) :: as) M (fun v M' => v = vj ∧ WP C t n ls st M' Q)) := WP_call (f := fun _ => st) (c := fun v => v = vj) (fun r => by
  rw [h]
  constructor
  · rintro ⟨a', as', st', v, M', h1, h2, h7, h3, h4, h5, h6⟩
    obtain ⟨e1, e2⟩ := app_len h1 (by rw [List.length_reverse, List.length_reverse, hk, h2])
    have e1 := List.reverse_inj.mp e1
    subst e1
    cases e2
    exact ⟨⟨h7, h3⟩, v, M', h4, h5, h6⟩
  · rintro ⟨h3, v, M', h4, h5, h6⟩
    exact ⟨a, as, st, v, M', rfl, hk, h3.1, h3.2, h4, h5, h6⟩)
theorem E_copy {a b : Nat} {i j k : Int} (h : mLk t pc = o_copy n) : WP C t pc ls (vi k :: vi j :: vr (some b) :: vi i :: vr (some a) :: st) M Q = (((kd M a = 14 ∧ kd M b = 14) ∧ (0 ≤ i ∧ 0 ≤ j ∧ 0 ≤ k ∧ i + k ≤ ln M a ∧ j + k ≤ ln M b) ∧ a ≠ b ∧ cs st) ∧ WP C t n ls st (sw M b (fun q => if j ≤ q ∧ q < j + k then gi M a (i + (q - j)).toNat else gi M b q)) Q) := WP_if (x := (n, ls, st, sw M b (fun q => if j ≤ q ∧ q < j + k then gi M a (i + (q - j)).toNat else gi M b q))) (fun r => by
  rw [h]
  constructor
  · rintro ⟨a', b', i', j', k', st', h1, h2, h3, h4, h5, h6, h7, h8, h9, h10, h11⟩
    cases h1
    exact ⟨⟨⟨h2, h3⟩, ⟨h4, h5, h6, h7, h8⟩, h9, h10⟩, h11⟩
  · rintro ⟨⟨⟨h2, h3⟩, ⟨h4, h5, h6, h7, h8⟩, h9, h10⟩, h11⟩
    exact ⟨a, b, i, j, k, st, rfl, h2, h3, h4, h5, h6, h7, h8, h9, h10, h11⟩)
theorem E_iret {z : Int} (h : mLk t pc = o_iret) : WP C t pc ls [vi z] M Q = Q (vi z) M := WP_ret (fun r => by
  rw [h]
  constructor
  · rintro ⟨z', h1, h2⟩
    cases h1
    exact h2
  · exact fun h2 => ⟨z, rfl, h2⟩)
theorem E_lret {z : Int} (h : mLk t pc = o_lret) : WP C t pc ls [vl z] M Q = Q (vl z) M := WP_ret (fun r => by
  rw [h]
  constructor
  · rintro ⟨z', h1, h2⟩
    cases h1
    exact h2
  · exact fun h2 => ⟨z, rfl, h2⟩)
theorem E_aret {o : Option Nat} (h : mLk t pc = o_aret) : WP C t pc ls [vr o] M Q = Q (vr o) M := WP_ret (fun r => by
  rw [h]
  constructor
  · rintro ⟨z', h1, h2⟩
    cases h1
    exact h2
  · exact fun h2 => ⟨o, rfl, h2⟩)
theorem E_vret (h : mLk t pc = o_vret) : WP C t pc ls [] M Q = Q vj M := WP_ret (fun r => by
  rw [h]
  exact ⟨fun h => h.2, fun h => ⟨rfl, h⟩⟩)
theorem E_zret {z : Int} (h : mLk t pc = o_zret) : WP C t pc ls [vi z] M Q = ((z = 0 ∨ z = 1) ∧ Q (vi z) M) := by
  by_cases hz : z = 0 ∨ z = 1
  · rw [eq_true hz, true_and]
    exact WP_ret (fun r => by
      rw [h]
      constructor
      · rintro ⟨z', h1, h3, h2⟩
        cases h1
        exact h2
      · exact fun h2 => ⟨z, rfl, hz, h2⟩)
  · rw [eq_false hz, false_and]
    apply propext
    refine ⟨?_, fun h => h.elim⟩
    rintro ⟨k, r, hk, -⟩
    cases k with
    | zero => exact hk.elim
    | succ k =>
      rcases hk with hk | ⟨x', h1, -⟩
      · change mLk t pc C ls [vi z] M _ at hk
        rw [h] at hk
        obtain ⟨z', h1, h3, -⟩ := hk
        cases h1
        exact hz h3
      · change mLk t pc C ls [vi z] M _ at h1
        rw [h] at h1
        obtain ⟨z', -, -, h2⟩ := h1
        cases h2
end EQS
