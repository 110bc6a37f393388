/-! ===== the start ===== -/
theorem s_gi : gi mS0 1 1 = 0 ∧ gi mS0 1 2 = 0 ∧ gi mS0 35 37 = 0 ∧ gi mS0 5 1 = -1 ∧ gi mS0 35 51 = -1 ∧ gi mS0 16 0 = 0 ∧ gi mS0 35 2 = 0 ∧ gi mS0 35 18 = 0 ∧ gi mS0 21 0 = 0 ∧ gi mS0 43 0 = 0 ∧ gi mS0 45 0 = 0 ∧ gi mS0 35 61 = -1 ∧ gi mS0 31 1 = -1 ∧ gi mS0 31 0 = 0 := by decide +kernel
theorem s_gr : gr mS0 0 5 = some 21 ∧ gr mS0 0 6 = some 26 ∧ gr mS0 0 7 = some 31 ∧ gr mS0 0 8 = some 33 := by decide +kernel
theorem s_14 : ∀ j : Fin 600, gr mS0 14 j.val = none := by decide +kernel
theorem s_32 : ∀ j : Fin 14, gr mS0 32 j.val = none ∧ gr mS0 34 j.val = none := by decide +kernel
theorem s_I1 : I1 mS0 := by
  unfold I1
  decide +kernel
theorem s_KY : ∀ k : Fin 14, gi mS0 42 k.val = keyL.getD k.val 0 := by decide +kernel
theorem INV_0 : INV mS0 := by
  obtain ⟨g1, g2, g3, g4, g5, g6, g7, g8, g9, g10, g11, g12, g13, g14⟩ := s_gi
  obtain ⟨r5, r6, r7, r8⟩ := s_gr
  have n14 : ∀ j a, j < 600 → gr mS0 14 j = some a → False := fun j a hj w => by
    rw [s_14 ⟨j, hj⟩] at w
    cases w
  have n32 : ∀ j a, j < 14 → gr mS0 32 j = some a → False := fun j a hj w => by
    rw [(s_32 ⟨j, hj⟩).1] at w
    cases w
  have n34 : ∀ j a, j < 14 → gr mS0 34 j = some a → False := fun j a hj w => by
    rw [(s_32 ⟨j, hj⟩).2] at w
    cases w
  refine ⟨⟨SH_0, s_I1, ⟨fun j hj => ?_, fun j hj => ?_⟩, fun k hk => ?_, ⟨0, fun _ => 0, g1, fun r hr => absurd hr (Nat.not_lt_zero r), fun r r' _ hr => absurd hr (Nat.not_lt_zero r'), fun j hj => absurd hj (Nat.not_lt_zero j)⟩, ⟨⟨fun j a hj w => (n14 j a hj w).elim, fun i j a hi hj w _ => (n14 i a hi w).elim⟩, Or.inl g4⟩, Or.inl g5⟩, ⟨⟨by rw [g6]; exact Int.le_refl 0, by rw [g6]; decide, by rw [g6, g7]⟩, fun i hi => ?_⟩, fun i hi => ?_, ?_, fun k hk => s_KY ⟨k, hk⟩, ?_⟩
  · rw [g1] at hj; omega
  · rw [g2] at hj; omega
  · rw [g3] at hk; omega
  · rw [g6] at hi; omega
  · rw [g6] at hi; omega
  · refine ⟨21, 26, 0, 0, 0, fun _ _ => 0, fun _ => 0, r5, r6, Or.inl ⟨rfl, rfl⟩, by decide, g8, g9, by decide, fun r hr => absurd hr (Nat.not_lt_zero r), g10, by decide, ⟨fun r hr => ?_, fun r hr => absurd hr (Nat.not_lt_zero r)⟩, ?_, fun r hr => absurd hr (Nat.not_lt_zero r)⟩
    · have : r = 0 := by omega
      subst this
      show 0 ≤ gi mS0 45 0
      rw [g11]
      exact Int.le_refl 0
    · show (gi mS0 45 0).toNat ≤ 400
      rw [g11]
      decide
  · refine ⟨⟨⟨fun j a hj w => (n32 j a hj w).elim, fun i j a hi hj w _ => (n32 i a hi w).elim⟩, ⟨fun j a hj w => (n34 j a hj w).elim, fun i j a hi hj w _ => (n34 i a hi w).elim⟩, fun i j a hi hj w _ => n32 i a hi w⟩, 31, 33, r7, r8, Or.inl ⟨rfl, rfl⟩, Or.inl ⟨g12, g13, g14⟩⟩
