/-! ===== a showing's values are the same on both sides ===== -/
/-- showing k of a day of n facts: its fact -/
theorem sF_n {M : mM} (hf : FM M) {n W j : Nat} (hn : (n : Int) ≤ gi M 35 37) (hj : j < cnt (dy M n) W 288) : ∃ f : Nat, sF (dy M n) W j = f ∧ f < n ∧ gi M 56 f = 0 ∧ gi M 58 f = (sC (dy M n) W j : Nat) := by
  rcases dy_ok M n (sC (dy M n) W j) (sT (dy M n) W j) with z | ⟨f, z, z2, z3, z4, z5⟩
  · exact absurd z (sF_ne hj)
  · exact ⟨f, z, z2, z3, z4⟩
theorem SFM_of {M : mM} (hf : FM M) {n W k : Nat} (hn : (n : Int) ≤ gi M 35 37) (h3 : gi M 35 37 ≤ 300) (h6 : gi M 35 35 ≤ 6) (hL : SHL (dy M n) W (cnt (dy M n) W 288) M) (hk : k < cnt (dy M n) W 288) : SFM M k := by
  have c6 := cnt_600 hf hn W
  refine ⟨by omega, fun j hj => ?_⟩
  obtain ⟨f, e, f1, f2, -⟩ := sF_n hf hn (j := j) (W := W) (by omega)
  obtain ⟨s1, -, -, -, s5⟩ := (hf f (by omega)).2.2.1 f2
  refine ⟨f, by rw [(hL j (by omega)).1]; exact e, by omega, ⟨s1.1, by omega⟩, s5⟩
/-- the least one, over the facts of showings -/
theorem lo_F {M : mM} {F G : Nat → Int} {m k : Nat} (h : ∀ j, j < m → F j = G j) (hk : k < m) : lo M F k = lo M G k := by
  refine LO_1 (M := M) (F := G) (k := k) ?_ (lo_LO M G k)
  have ha : ∀ j, j < m → (aro M F j k ↔ aro M G j k) := fun j hj => by
    unfold aro
    rw [h j hj, h k hk]
  rcases lo_LO M F k with ⟨a, b⟩ | ⟨a, b, c⟩
  · exact Or.inl ⟨a, fun j hj w => b j hj ((ha j (by omega)).mpr w)⟩
  · exact Or.inr ⟨a, (ha _ (by omega)).mp b, fun j hj w => c j hj ((ha j (by omega)).mpr w)⟩
theorem en_eq {M N : mM} {n W k a : Nat} (hs : shob M N (dy M n) W k a) (hk : k < cnt (dy M n) W 288) (hL : SHL (dy M n) W (cnt (dy M n) W 288) M) : enC N a = enM M k := by
  obtain ⟨-, s0, s1, s2, s3, s4, s5, s6, s7, s8, s9⟩ := hs
  obtain ⟨l1, l2, l3, l4⟩ := hL k hk
  have el : lo M (gi M 67) k = lo M (sF (dy M n) W) k := lo_F (m := cnt (dy M n) W 288) (fun j hj => (hL j hj).1) hk
  have le : ((lo M (sF (dy M n) W) k : Nat) : Int) = (k : Nat) ↔ lo M (sF (dy M n) W) k = k := by omega
  funext i
  unfold enC enM
  rw [el, l1, l2, l3, l4, s0, s2, s3, s4, s5, s6, s7, s8, s9]
  by_cases z : lo M (sF (dy M n) W) k = k
  · rw [if_pos z, if_pos (le.mpr z)]
  · rw [if_neg z, if_neg (fun w => z (le.mp w))]
theorem enM_EV {M : mM} {k : Nat} (h : SFM M k) : EV (enM M k) := by
  obtain ⟨f, hf, -, -, hl⟩ := h.2 k (Nat.le_refl k)
  refine ⟨?_, ?_⟩
  · show gi M 63 (gi M 67 k).toNat = 0 ∨ gi M 63 (gi M 67 k).toNat = 1
    rw [hf, Int.toNat_natCast]
    exact hl
  · show (if lo M (gi M 67) k = k then (1 : Int) else 0) = 0 ∨ (if lo M (gi M 67) k = k then (1 : Int) else 0) = 1
    split
    · exact Or.inr rfl
    · exact Or.inl rfl
