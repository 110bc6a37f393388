/-! ===== the best of sets ===== -/
/-- at the first place where they differ the first one has it -/
def lexB (s t : Nat) : Prop := ∃ i, s.testBit i = true ∧ t.testBit i = false ∧ ∀ j, j < i → s.testBit j = t.testBit j
theorem lexB_trans {a b c : Nat} (h : lexB a b) (k : lexB b c) : lexB a c := by
  obtain ⟨i, h1, h2, h3⟩ := h
  obtain ⟨j, k1, k2, k3⟩ := k
  rcases Nat.lt_trichotomy i j with w | w | w
  · exact ⟨i, h1, by rw [← k3 i w]; exact h2, fun m hm => (h3 m hm).trans (k3 m (by omega))⟩
  · subst w
    rw [h2] at k1
    exact absurd k1 (by decide)
  · exact ⟨j, by rw [h3 j w]; exact k1, k2, fun m hm => (h3 m (by omega)).trans (k3 m hm)⟩
theorem lexB_irr {a : Nat} (h : lexB a a) : False := by
  obtain ⟨i, h1, h2, -⟩ := h
  rw [h1] at h2
  exact absurd h2 (by decide)
theorem least_ex {p : Nat → Prop} : ∀ m, p m → ∃ i, p i ∧ ∀ j, j < i → ¬ p j := by
  intro m
  induction m using Nat.strongRecOn with
  | ind m ih =>
    intro h
    by_cases q : ∃ j, j < m ∧ p j
    · obtain ⟨j, hj, hp⟩ := q
      exact ih j hj hp
    · exact ⟨m, h, fun j hj hp => q ⟨j, hj, hp⟩⟩
theorem lexB_total {a b : Nat} (h : a ≠ b) : lexB a b ∨ lexB b a := by
  have : ∃ i, a.testBit i ≠ b.testBit i := by
    by_cases q : ∃ i, a.testBit i ≠ b.testBit i
    · exact q
    · exact absurd (Nat.eq_of_testBit_eq (fun i => by
        by_cases w : a.testBit i = b.testBit i
        · exact w
        · exact absurd ⟨i, w⟩ q)) h
  obtain ⟨m, hm⟩ := this
  obtain ⟨i, h1, h2⟩ := least_ex (p := fun i => a.testBit i ≠ b.testBit i) m hm
  have h3 : ∀ j, j < i → a.testBit j = b.testBit j := fun j hj => by
    by_cases w : a.testBit j = b.testBit j
    · exact w
    · exact absurd w (h2 j hj)
  cases ha : a.testBit i with
  | true =>
    refine Or.inl ⟨i, ha, ?_, h3⟩
    cases hb : b.testBit i with
    | true => exact absurd (ha.trans hb.symm) h1
    | false => rfl
  | false =>
    refine Or.inr ⟨i, ?_, ha, fun j hj => (h3 j hj).symm⟩
    cases hb : b.testBit i with
    | true => rfl
    | false => exact absurd (ha.trans hb.symm) h1
section BEST
variable {n : Nat} {way wt sp : Nat → Int}
/-- s is better than t -/
def bet (n : Nat) (way wt sp : Nat → Int) (s t : Nat) : Prop := sm way t n < sm way s n ∨ (sm way t n = sm way s n ∧ (sm wt t n < sm wt s n ∨ (sm wt t n = sm wt s n ∧ (sm sp s n < sm sp t n ∨ (sm sp s n = sm sp t n ∧ lexB s t)))))
theorem bet_trans {a b c : Nat} (h : bet n way wt sp a b) (k : bet n way wt sp b c) : bet n way wt sp a c := by
  unfold bet at *
  rcases h with h | ⟨h0, h⟩
  · rcases k with k | ⟨k0, k⟩
    · exact Or.inl (by omega)
    · exact Or.inl (by omega)
  · rcases k with k | ⟨k0, k⟩
    · exact Or.inl (by omega)
    · refine Or.inr ⟨by omega, ?_⟩
      rcases h with h | ⟨h1, h⟩
      · rcases k with k | ⟨k1, k⟩
        · exact Or.inl (by omega)
        · exact Or.inl (by omega)
      · rcases k with k | ⟨k1, k⟩
        · exact Or.inl (by omega)
        · refine Or.inr ⟨by omega, ?_⟩
          rcases h with h | ⟨h2, h⟩
          · rcases k with k | ⟨k2, k⟩
            · exact Or.inl (by omega)
            · exact Or.inl (by omega)
          · rcases k with k | ⟨k2, k⟩
            · exact Or.inl (by omega)
            · exact Or.inr ⟨by omega, lexB_trans h k⟩
theorem bet_irr {a : Nat} (h : bet n way wt sp a a) : False := by
  unfold bet at h
  rcases h with h | ⟨-, h | ⟨-, h | ⟨-, h⟩⟩⟩
  · omega
  · omega
  · omega
  · exact lexB_irr h
theorem bet_total {a b : Nat} (h : a ≠ b) : bet n way wt sp a b ∨ bet n way wt sp b a := by
  unfold bet
  rcases Int.lt_trichotomy (sm way a n) (sm way b n) with w | w | w
  · exact Or.inr (Or.inl w)
  · rcases Int.lt_trichotomy (sm wt a n) (sm wt b n) with v | v | v
    · exact Or.inr (Or.inr ⟨w, Or.inl v⟩)
    · rcases Int.lt_trichotomy (sm sp a n) (sm sp b n) with u | u | u
      · exact Or.inl (Or.inr ⟨w.symm, Or.inr ⟨v.symm, Or.inl u⟩⟩)
      · rcases lexB_total h with l | l
        · exact Or.inl (Or.inr ⟨w.symm, Or.inr ⟨v.symm, Or.inr ⟨u, l⟩⟩⟩)
        · exact Or.inr (Or.inr ⟨w, Or.inr ⟨v, Or.inr ⟨u.symm, l⟩⟩⟩)
      · exact Or.inr (Or.inr ⟨w, Or.inr ⟨v, Or.inl u⟩⟩)
    · exact Or.inl (Or.inr ⟨w.symm, Or.inl v⟩)
  · exact Or.inl (Or.inl w)
def bestOf (n : Nat) (way wt sp : Nat → Int) (V : Nat → Prop) (s : Nat) : Prop := V s ∧ ∀ t, V t → t = s ∨ bet n way wt sp s t
theorem best_1 {V : Nat → Prop} {s t : Nat} (hs : bestOf n way wt sp V s) (ht : bestOf n way wt sp V t) : s = t := by
  rcases hs.2 t ht.1 with w | w
  · exact w.symm
  · rcases ht.2 s hs.1 with v | v
    · exact v
    · exact absurd (bet_trans w v) (fun z => bet_irr z)
end BEST
/-- j is on at the first slot of i -/
def onN (fr un : Nat → Int) (i j : Nat) : Int := if fr j ≤ fr i ∧ fr i < un j then 1 else 0
theorem onN_01 (fr un : Nat → Int) (i j : Nat) : 0 ≤ onN fr un i j ∧ onN fr un i j ≤ 1 := by
  unfold onN; split <;> omega
def thinC (n : Nat) (fr un : Nat → Int) (tu : Int) (t : Nat) : Prop := ∀ i, i < n → t.testBit i = true → sm (onN fr un i) t i < tu
def thinM (n : Nat) (fr un : Nat → Int) (tu : Int) (t : Nat) : Prop := ∀ i, i < n → t.testBit i = true → sm (onN fr un i) t n ≤ tu
theorem thin_iff {n : Nat} {fr un : Nat → Int} {tu : Int} {t : Nat} (hu : ∀ i, i < n → fr i < un i) (hm : ∀ i j, i < j → j < n → fr i ≤ fr j) : thinC n fr un tu t ↔ thinM n fr un tu t := by
  constructor
  · intro h
    have key : ∀ r i, n - i ≤ r → i < n → t.testBit i = true → sm (onN fr un i) t n ≤ tu := by
      intro r
      induction r with
      | zero => intro i h1 h2; omega
      | succ r ih =>
        intro i hr hi hb
        by_cases q : ∃ j, i < j ∧ j < n ∧ t.testBit j = true ∧ fr j = fr i
        · obtain ⟨j, h1, h2, h3, h4⟩ := q
          have e : onN fr un i = onN fr un j := by
            funext k
            unfold onN
            rw [h4]
          rw [e]
          exact ih j (by omega) h2 h3
        · have e : sm (onN fr un i) t n = sm (onN fr un i) t (i + 1) := sm_hi (by omega) (fun j h1 h2 h3 => by
            unfold onN
            rw [if_neg]
            rintro ⟨w1, w2⟩
            have := hm i j (by omega) h2
            exact q ⟨j, by omega, h2, h3, by omega⟩)
          have := h i hi hb
          rw [e, sm_s, if_pos hb]
          have := (onN_01 fr un i i).2
          omega
    exact fun i hi hb => key (n - i) i (Nat.le_refl _) hi hb
  · intro h i hi hb
    have h1 := h i hi hb
    have h2 : sm (onN fr un i) t (i + 1) ≤ sm (onN fr un i) t n := by
      obtain ⟨r, rfl⟩ : ∃ r, n = i + 1 + r := ⟨n - (i + 1), by omega⟩
      exact sm_mono r (fun j _ _ _ => (onN_01 fr un i j).1)
    rw [sm_s, if_pos hb] at h2
    have h3 : onN fr un i i = 1 := by
      unfold onN
      rw [if_pos ⟨Int.le_refl _, hu i hi⟩]
    omega
/-- a set that may be a plan, as the class builds it -/
def valC (n : Nat) (fr un sp : Nat → Int) (may : Nat → Bool) (one : Nat → Nat → Bool) (tu room : Int) (t : Nat) : Prop := t < 2 ^ n ∧ (∀ i, i < n → t.testBit i = true → may i = true ∧ ∀ j, j < i → t.testBit j = true → one j i = false) ∧ sm sp t n ≤ room ∧ thinC n fr un tu t
/-- what all behind could bring -/
def ahd (f : Nat → Int) : Nat → Nat → Int
  | 0, _ => 0
  | r + 1, i => f i + ahd f r (i + 1)
theorem ahd_le {f g : Nat → Int} {t n : Nat} : ∀ r i, i + r = n → (∀ j, i ≤ j → j < n → 0 ≤ g j ∧ (t.testBit j = true → f j ≤ g j)) → sm f t n ≤ sm f t i + ahd g r i := by
  intro r
  induction r with
  | zero => intro i h _; rw [show n = i by omega, ahd]; omega
  | succ r ih =>
    intro i hi h
    have := ih (i + 1) (by omega) (fun j h1 h2 => h j (by omega) h2)
    obtain ⟨a, b⟩ := h i (Nat.le_refl i) (by omega)
    rw [sm_s] at this
    rw [ahd]
    by_cases q : t.testBit i = true
    · rw [if_pos q] at this; have := b q; omega
    · rw [if_neg q] at this; omega
