/-! ===== a frame for what was told ===== -/
def t35 (i : Nat) : Prop := i = 17 ∨ i = 34 ∨ i = 35 ∨ i = 37 ∨ (46 ≤ i ∧ i ≤ 51) ∨ i = 55
def toldG (M : mM) (a i : Nat) : Prop := a = 1 ∨ (a = 5 ∧ i ≤ 2) ∨ isRow a ∨ (a = 18 ∧ i = 1) ∨ (a = 20 ∧ i < 5) ∨ (a = 35 ∧ t35 i) ∨ (55 ≤ a ∧ a ≤ 63) ∨ a = 65 ∨ (67 ≤ a ∧ a ≤ 70) ∨ kd M a = 2 ∨ kd M a = 7 ∨ kd M a = 6
def toldR (M : mM) (a : Nat) : Prop := a = 2 ∨ a = 3 ∨ a = 4 ∨ a = 14 ∨ kd M a = 2
theorem TI_cl {M N : mM} (hN : SH N) (hk : ∀ a, a < nx M → kd N a = kd M a) (hn : nx M ≤ nx N) (hr : ∀ a i, a < nx M → toldR M a → gr N a i = gr M a i) (hg : ∀ a i, a < nx M → toldG M a i → gi N a i = gi M a i) (hT : TI M) : TI N := by
  obtain ⟨h0, h1, h3, hf, ⟨S, p, hS, hp⟩, hc, hm⟩ := hT
  have h8 := h0.2.2.2
  have i1 := h1
  obtain ⟨-, -, ⟨b7, b8, b9⟩, -⟩ := i1
  have e1 : ∀ i, gi N 1 i = gi M 1 i := fun i => hg 1 i (by omega) (Or.inl rfl)
  have e5 : ∀ i, i ≤ 2 → gi N 5 i = gi M 5 i := fun i h => hg 5 i (by omega) (by unfold toldG; omega)
  have e18 : gi N 18 1 = gi M 18 1 := hg 18 1 (by omega) (by unfold toldG; omega)
  have e20 : ∀ i, i < 5 → gi N 20 i = gi M 20 i := fun i h => hg 20 i (by omega) (by unfold toldG; omega)
  have e35 : ∀ i, t35 i → gi N 35 i = gi M 35 i := fun i h => hg 35 i (by omega) (by unfold toldG; exact Or.inr (Or.inr (Or.inr (Or.inr (Or.inr (Or.inl ⟨rfl, h⟩))))))
  have tb : ∀ a i, 55 ≤ a → a ≤ 63 → gi N a i = gi M a i := fun a i h1 h2 => hg a i (by omega) (by unfold toldG; omega)
  have r2 : ∀ i, gr N 2 i = gr M 2 i := fun i => hr 2 i (by omega) (Or.inl rfl)
  have r3 : ∀ i, gr N 3 i = gr M 3 i := fun i => hr 3 i (by omega) (by unfold toldR; omega)
  have r4 : ∀ i, gr N 4 i = gr M 4 i := fun i => hr 4 i (by omega) (by unfold toldR; omega)
  have r14 : ∀ i, gr N 14 i = gr M 14 i := fun i => hr 14 i (by omega) (by unfold toldR; omega)
  have f34 := e35 34 (by unfold t35; omega)
  have f35 := e35 35 (by unfold t35; omega)
  have f37 := e35 37 (by unfold t35; omega)
  have fen : ∀ n, fe n M N := fun n => ⟨fun a k h1 h2 _ => tb a k (by omega) h2, fun s _ => tb 55 s (by decide) (by decide)⟩
  refine ⟨hN, ?_, ?_, ?_, ⟨S, p, by rw [e1]; exact hS, ?_⟩, ⟨?_, ?_⟩, ?_⟩
  · unfold I1 at h1 ⊢
    rw [e1, e1, e1, e18, e20 0 (by decide), e20 1 (by decide), e20 2 (by decide), e20 3 (by decide), e20 4 (by decide), f34, f35, f37, e35 46 (by unfold t35; omega), e35 47 (by unfold t35; omega), e35 48 (by unfold t35; omega), e35 49 (by unfold t35; omega), e35 50 (by unfold t35; omega), e35 17 (by unfold t35; omega)]
    exact h1
  · unfold I3 at h3 ⊢
    simp only [e1, fun i => tb 55 i (by decide) (by decide), fun i => tb 56 i (by decide) (by decide), fun i => tb 57 i (by decide) (by decide), fun i => tb 58 i (by decide) (by decide), fun i => tb 59 i (by decide) (by decide), fun i => tb 60 i (by decide) (by decide), fun i => tb 61 i (by decide) (by decide), fun i => tb 62 i (by decide) (by decide), fun i => tb 63 i (by decide) (by decide), r2, r4]
    refine ⟨fun j hj => ?_, fun j hj => ?_⟩
    · obtain ⟨a, q8, q9, q10, q11, q12⟩ := h3.1 j hj
      have ea := fun i => hg a i q9 (by unfold toldG; omega)
      refine ⟨a, q8, by omega, q10, by rw [hk a q9]; exact q11, ?_⟩
      simp only [ea]
      exact q12
    · obtain ⟨a, q8, q9, q10, q11, q12⟩ := h3.2 j hj
      have ea := fun i => hg a i q9 (by unfold toldG; omega)
      have ra := fun i => hr a i q9 (by unfold toldR; omega)
      refine ⟨a, q8, by omega, q10, by rw [hk a q9]; exact q11, ?_⟩
      simp only [ea, ra]
      exact q12
  · unfold FM at hf ⊢
    simp only [f34, f35, f37, fun i => tb 56 i (by decide) (by decide), fun i => tb 57 i (by decide) (by decide), fun i => tb 58 i (by decide) (by decide), fun i => tb 59 i (by decide) (by decide), fun i => tb 60 i (by decide) (by decide), fun i => tb 61 i (by decide) (by decide), fun i => tb 62 i (by decide) (by decide), fun i => tb 63 i (by decide) (by decide)]
    exact hf
  · unfold RKp bts at hp ⊢
    simp only [fun i => tb 55 i (by decide) (by decide), r2, r3]
    exact hp
  · obtain ⟨s1, s2⟩ := hc.1
    refine ⟨fun j a hj hja => ?_, fun i j a hi hj q1 q2 => ?_⟩
    · rw [r14] at hja
      obtain ⟨a1, a2, a3⟩ := s1 j a hj hja
      exact ⟨a1, by omega, by rw [hk a a2]; exact a3⟩
    · rw [r14] at q1 q2
      exact s2 i j a hi hj q1 q2
  · rcases hc.2 with w | ⟨n, W, w1, w2, w3, w4, w5⟩
    · exact Or.inl (by rw [e5 1 (by decide)]; exact w)
    · have c6 := cnt_600 hf (n := n) (by omega) W
      refine Or.inr ⟨n, W, by rw [e5 1 (by decide)]; exact w1, by rw [e5 2 (by decide)]; exact w2, by rw [e1]; exact w3, w4, ?_⟩
      exact DAYC_fe hf (by omega) (fen n) w4 w5 hc.1 h0 (by omega) (e5 0 (by decide)) (fun a t q1 q2 => hg a t (by omega) (by unfold toldG isRow; omega)) r14 (fun a i ha hka => ⟨hg a i ha (by unfold toldG; omega), by rw [hk a ha]; exact hka⟩)
  · rcases hm with w | ⟨n, W, w1, w2, w3, w4, w5, w6⟩
    · exact Or.inl (by rw [e35 51 (by unfold t35; omega)]; exact w)
    · have hD := dyD hf w3 (fen n)
      refine Or.inr ⟨n, W, by rw [e35 51 (by unfold t35; omega)]; exact w1, by rw [f34]; exact w2, by rw [f37]; exact w3, ?_, ?_, ?_⟩
      · intro c t hc ht; rw [hD, hg 65 _ (by omega) (by unfold toldG; omega)]; exact w4 c t hc ht
      · rw [hD, e35 55 (by unfold t35; omega)]; exact w5
      · rw [hD]; exact SHL_eq (fun a i h1 h2 => hg a i (by omega) (by unfold toldG; omega)) w6
/-- the reference's calls: cells below 88, ints alone -/
theorem TI_YF {S : Nat → Nat → Prop} {M N : mM} (h : YF S M N) (hS : ∀ a i, S a i → a < 88 ∧ ¬ toldG M a i) (hT : TI M) : TI N := TI_cl (YF_SH h hT.1) (fun a _ => YF_k h a) (by rw [YF_n h]; exact Nat.le_refl _) (fun a i _ _ => YF_r h a i) (fun a i _ w => h.2 a i (fun v => (hS a i v).2 w)) hT
/-- kinds of the fixed cells -/
theorem kd_267 {M : mM} (h : SH M) {a : Nat} (ha : a < 88) : kd M a ≠ 2 ∧ kd M a ≠ 6 ∧ kd M a ≠ 7 ∧ kd M a ≠ 0 := by
  rw [h.1 a ha]
  exact (by decide : ∀ a : Fin 88, kdT.getD a.val 0 ≠ 2 ∧ kdT.getD a.val 0 ≠ 6 ∧ kdT.getD a.val 0 ≠ 7 ∧ kdT.getD a.val 0 ≠ 0) ⟨a, ha⟩
/-- what the values of a showing rest on -/
theorem enP_fe {M N : mM} {n W k : Nat} (hf : FM M) (hn : (n : Int) ≤ gi M 35 37) (h : fe n M N) (hk : k < cnt (dy M n) W 288) : enP N (dy M n) W k = enP M (dy M n) W k ∧ lo N (sF (dy M n) W) k = lo M (sF (dy M n) W) k ∧ gi N 61 (sF (dy M n) W k).toNat = gi M 61 (sF (dy M n) W k).toNat ∧ gi N 62 (sF (dy M n) W k).toNat = gi M 62 (sF (dy M n) W k).toNat ∧ gi N 63 (sF (dy M n) W k).toNat = gi M 63 (sF (dy M n) W k).toNat := by
  obtain ⟨f, e, f1, f2, -⟩ := sF_n hf hn hk
  have fs := ((hf f (by omega)).2.2.1 f2).1
  have hl : lo N (sF (dy M n) W) k = lo M (sF (dy M n) W) k := lo_eq (m := cnt (dy M n) W 288) (fun i hi => by
    obtain ⟨g, e, g1, g2, -⟩ := sF_n hf hn hi
    rw [e, Int.toNat_natCast, h.1 61 g (by decide) (by decide) g1, h.1 62 g (by decide) (by decide) g1]
    exact ⟨rfl, rfl⟩) hk
  refine ⟨?_, hl, ?_, ?_, ?_⟩
  · funext i
    unfold enP
    rw [hl, e, Int.toNat_natCast, h.1 61 f (by decide) (by decide) f1, h.1 62 f (by decide) (by decide) f1, h.1 63 f (by decide) (by decide) f1, h.1 57 f (by decide) (by decide) f1, h.2 (gi M 57 f).toNat (by omega)]
  · rw [e, Int.toNat_natCast, h.1 61 f (by decide) (by decide) f1]
  · rw [e, Int.toNat_natCast, h.1 62 f (by decide) (by decide) f1]
  · rw [e, Int.toNat_natCast, h.1 63 f (by decide) (by decide) f1]
theorem cfv_fe {M N : mM} {n W k i : Nat} {ld tl : Int} {wv : Nat → Int} (hf : FM M) (hn : (n : Int) ≤ gi M 35 37) (h : fe n M N) (hk : k < cnt (dy M n) W 288) : cfv N (dy M n) W ld tl wv k i = cfv M (dy M n) W ld tl wv k i := by
  obtain ⟨-, a, b, c, -⟩ := enP_fe (W := W) hf hn h hk
  unfold cfv
  rw [a, b, c]
