theorem SO_f {M N : mM} (h2 : N.2 = M.2) (h : SO M) : SO N := by
  have r : ∀ a i, gr N a i = gr M a i := fun a i => by unfold gr; rw [h2]
  have k : ∀ a, kd N a = kd M a := fun a => by unfold kd; rw [h2]
  have n : nx N = nx M := by unfold nx; rw [h2]
  unfold SO at h ⊢
  simp only [r, k, n]
  exact h
/-- ints of the reference alone change: the class's day stays -/
theorem DC_f {M N : mM} (hf : FM M) (hsh : SH M) (h3 : gi M 35 37 ≤ 300) (h37 : gi M 35 37 = gi M 1 2) (h2 : N.2 = M.2) (hc : ∀ a i, a < 35 ∨ 88 ≤ a → gi N a i = gi M a i) (hfe : ∀ n, fe n M N) (h : DC M) : DC N := by
  have r : ∀ a i, gr N a i = gr M a i := fun a i => by unfold gr; rw [h2]
  have k : ∀ a, kd N a = kd M a := fun a => by unfold kd; rw [h2]
  refine ⟨SO_f h2 h.1, ?_⟩
  rcases h.2 with w | ⟨n, W, w1, w2, w3, w4, w5⟩
  · exact Or.inl (by rw [hc 5 1 (by decide)]; exact w)
  · have c6 := cnt_600 hf (n := n) (by omega) W
    refine Or.inr ⟨n, W, by rw [hc 5 1 (by decide)]; exact w1, by rw [hc 5 2 (by decide)]; exact w2, by rw [hc 1 2 (by decide)]; exact w3, w4, ?_⟩
    refine DAYC_fe hf (by omega) (hfe n) w4 w5 h.1 hsh (by omega) (hc 5 0 (by decide)) (fun a t h1 h2 => hc a t (by omega)) (fun j => r 14 j) (fun a i ha hk => ⟨?_, by rw [k]; exact hk⟩)
    refine hc a i ?_
    by_cases z : a < 35
    · exact Or.inl z
    · by_cases y : 88 ≤ a
      · exact Or.inr y
      · exfalso
        have := hsh.1 a (by omega)
        rw [hk] at this
        exact (by decide : ∀ a : Fin 88, 35 ≤ a.val → ¬ 6 = kdT.getD a.val 0) ⟨a, by omega⟩ (by simp only; omega) this
theorem mdS_c {a i : Nat} (h : a < 35 ∨ 88 ≤ a) : ¬ mdS a i := by unfold mdS; omega
/-- the reference makes the day -/
theorem y_mk {d n : Nat} {M : mM} {Q : mV → mM → Prop} (h : TI M) (hn : (n : Int) ≤ gi M 1 2)
    (hQ : ∀ N W, YF mdS M N → TI N → gi M 1 0 = (W : Nat) → DAYM N n W → Q vj N) : CP (mc (d + 2)) 156 [vr (some 35), vi n] M Q := by
  obtain ⟨h0, h1, h3, hf, ⟨S, p, hS, hp⟩, hc, hm⟩ := h
  have i1 := h1
  obtain ⟨⟨b1, b2, b3⟩, ⟨b4, b5, b6⟩, ⟨b7, b8, b9⟩, b10⟩ := i1
  obtain ⟨W, hW⟩ : ∃ W : Nat, gi M 1 0 = W := ⟨(gi M 1 0).toNat, by omega⟩
  refine y_makes (S := S) (W := W) h0 hf (by omega) (by omega) (by omega) (by omega) (by omega) (by omega) hm (fun N yN n51 dN => ?_)
  have hN := YF_SH yN h0
  have o : ∀ a i, ¬ mdS a i → gi N a i = gi M a i := yN.2
  have e35 : ∀ i, i ≠ 51 → i ≠ 55 → gi N 35 i = gi M 35 i := fun i h1 h2 => o 35 i (by unfold mdS; omega)
  have tb : ∀ a i, 55 ≤ a → a ≤ 63 → gi N a i = gi M a i := fun a i h1 h2 => o a i (by unfold mdS; omega)
  have lowc : ∀ a i, a < 35 → gi N a i = gi M a i := fun a i ha => o a i (by unfold mdS; omega)
  have hi : ∀ a i, 88 ≤ a → gi N a i = gi M a i := fun a i ha => o a i (by unfold mdS; omega)
  refine hQ N W yN ⟨hN, ?_, ?_, YF_FM yN hf, ⟨S, p, by rw [lowc 1 1 (by decide)]; exact hS, ?_⟩, ?_, Or.inr ⟨n, W, n51, by rw [e35 34 (by decide) (by decide)]; omega, by rw [e35 37 (by decide) (by decide)]; omega, dN⟩⟩ hW dN
  · unfold I1 at h1 ⊢
    simp only [fun i => lowc 1 i (by decide), fun i => lowc 18 i (by decide), fun i => lowc 20 i (by decide), e35 34 (by decide) (by decide), e35 35 (by decide) (by decide), e35 37 (by decide) (by decide), e35 46 (by decide) (by decide), e35 47 (by decide) (by decide), e35 48 (by decide) (by decide), e35 49 (by decide) (by decide), e35 50 (by decide) (by decide), e35 17 (by decide) (by decide)]
    exact h1
  · unfold I3 at h3 ⊢
    have hnx := YF_n yN
    simp only [fun i => lowc 1 i (by decide), fun i => tb 55 i (by decide) (by decide), fun i => tb 56 i (by decide) (by decide), fun i => tb 57 i (by decide) (by decide), fun i => tb 58 i (by decide) (by decide), fun i => tb 59 i (by decide) (by decide), fun i => tb 60 i (by decide) (by decide), fun i => tb 61 i (by decide) (by decide), fun i => tb 62 i (by decide) (by decide), fun i => tb 63 i (by decide) (by decide), YF_r yN, hnx, YF_k yN]
    refine ⟨fun j hj => ?_, fun j hj => ?_⟩
    · obtain ⟨a, a8, a9, a10, a11, a12⟩ := h3.1 j hj
      refine ⟨a, a8, a9, a10, a11, ?_⟩
      simp only [fun i => hi a i a8]
      exact a12
    · obtain ⟨a, a8, a9, a10, a11, a12⟩ := h3.2 j hj
      refine ⟨a, a8, a9, a10, a11, ?_⟩
      simp only [fun i => hi a i a8]
      exact a12
  · unfold RKp bts at hp ⊢
    simp only [fun i => tb 55 i (by decide) (by decide), YF_r yN]
    exact hp
  · exact DC_f hf h0 (by omega) (by omega) yN.1 (fun a i ha => o a i (mdS_c ha)) (fun n => YF_fe yN n) hc
