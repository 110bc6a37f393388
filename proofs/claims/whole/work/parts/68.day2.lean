/-! ===== what was told, and the days at hand ===== -/
def TI (M : mM) : Prop := SH M ∧ I1 M ∧ I3 M ∧ FM M ∧ (∃ (S : Nat) (p : Nat → Nat), gi M 1 1 = S ∧ RKp M S p) ∧ DC M ∧ DM M
theorem SHL_eq {D : Nat → Nat → Int} {W k : Nat} {M N : mM} (h : ∀ a i, 67 ≤ a → a ≤ 70 → gi N a i = gi M a i) (hL : SHL D W k M) : SHL D W k N := fun j hj => by
  rw [h 67 j (by decide) (by decide), h 68 j (by decide) (by decide), h 69 j (by decide) (by decide), h 70 j (by decide) (by decide)]
  exact hL j hj
theorem DM_f {M N : mM} (hf : FM M) (h35 : ∀ i, gi N 35 i = gi M 35 i) (h65 : ∀ i, gi N 65 i = gi M 65 i) (h67 : ∀ a i, 67 ≤ a → a ≤ 70 → gi N a i = gi M a i) (hfe : ∀ n, fe n M N) (h : DM M) : DM N := by
  rcases h with w | ⟨n, W, w1, w2, w3, w4, w5, w6⟩
  · exact Or.inl (by rw [h35]; exact w)
  · have hD := dyD hf w3 (hfe n)
    refine Or.inr ⟨n, W, by rw [h35]; exact w1, by rw [h35]; exact w2, by rw [h35]; exact w3, ?_, ?_, ?_⟩
    · intro c t hc ht; rw [hD, h65]; exact w4 c t hc ht
    · rw [hD, h35]; exact w5
    · rw [hD]; exact SHL_eq h67 w6
theorem day35 {M : mM} (h : SH M) {a i : Nat} (ha : 35 ≤ a) (ha2 : a ≤ 87) : ¬ dayS M a i := by
  have hk : kd M a ≠ 6 := by
    rw [h.1 a (by omega)]
    exact (by decide : ∀ a : Fin 88, 35 ≤ a.val → kdT.getD a.val 0 ≠ 6) ⟨a, by omega⟩ ha
  unfold dayS isRow
  omega
/-- the class's survey -/
theorem x_sv {d n : Nat} {M : mM} {Q : mV → mM → Prop} (h : TI M) (hn : (n : Int) ≤ gi M 1 2)
    (hQ : ∀ N W, FRM (dayS M) colT M N → TI N → gi M 1 0 = (W : Nat) → gi N 5 1 = n → gi N 5 2 = W → DAYC N n W → nx N ≤ nx M + 600 → Q vj N) : CP (mc (d + 5)) 8 [vr (some 5), vr (some 1), vi n] M Q := by
  obtain ⟨h0, h1, h3, hf, ⟨S, p, hS, hp⟩, hc, hm⟩ := h
  have h88 := h0.2.2.2
  obtain ⟨W, hW⟩ : ∃ W : Nat, gi M 1 0 = W := ⟨(gi M 1 0).toNat, by have := h1.1; omega⟩
  refine x_survey h0 h1 h3 hf hS hp hW hn hc (fun N fN dN n1 n2 n3 n4 => ?_)
  have ts := dayTS h0
  have h0N := FRM_SH fN h0 colrf
  have g : ∀ a i, 35 ≤ a → a ≤ 87 → gi N a i = gi M a i := fun a i h1 h2 => fN.1 a i (by omega) (day35 h0 h1 h2)
  have e1 : gi N 1 1 = gi M 1 1 := fN.1 1 1 (by omega) (by unfold dayS isRow; rw [hk1 h0]; omega)
  exact hQ N W fN ⟨h0N, FRM_I1 fN h0 ts h1, FRM_I3 fN h0 ts h3, FRM_FM fN h0 ts hf, ⟨S, p, by rw [e1]; exact hS, FRM_RK fN h0 ts hp⟩, dN, DM_f hf (fun i => g 35 i (by decide) (by decide)) (fun i => g 65 i (by decide) (by decide)) (fun a i h1 h2 => g a i (by omega) (by omega)) (fun n => FRM_fe fN h0 ts n) hm⟩ hW n1 n2 n3 n4
