/-! ===== what holds between calls ===== -/
/-- the cells of both plans -/
def PAR (M : mM) : Prop := PC M M 31 ∧ PC M M 33 ∧ ∀ i j a, i < 14 → j < 14 → gr M 32 i = some a → gr M 34 j = some a → False
/-- the plan at hand, the class's (h) and the reference's -/
def PH (M : mM) (h : Nat) : Prop := (gi M 35 61 = -1 ∧ gi M h 1 = -1 ∧ gi M h 0 = 0) ∨ ∃ n s k : Nat, gi M 35 61 = k ∧ gi M h 1 = k ∧ n ≤ 14 ∧ gi M h 0 = n ∧ gi M 35 62 = n ∧ gi M 35 63 = s ∧ s < 2 ^ n ∧ gi M h 2 = sm (fun _ => 1) s n ∧ gi M h 4 = gi M 35 64 ∧ ∀ j, j < n → ∃ a, gr M (h + 1) j = some a ∧ (gi M a 0 = gi M 72 j ∧ gi M a 1 = gi M 77 j ∧ gi M a 2 = gi M 78 j ∧ gi M a 3 = gi M 79 j ∧ gi M a 4 = gi M 76 j ∧ gi M a 7 = gi M 74 j) ∧ (gi M a 9 = gi M 80 j ∧ (gi M 80 j = 0 ∨ gi M 80 j = 1) ∧ gi M a 11 = tb s j ∧ gi M a 12 = gi M 82 j ∧ gi M a 13 = gi M 83 j)
def PLI (M : mM) : Prop := PAR M ∧ ∃ h s, gr M 0 7 = some h ∧ gr M 0 8 = some s ∧ ((h = 31 ∧ s = 33) ∨ (h = 33 ∧ s = 31)) ∧ PH M h
theorem PC_f {M N : mM} {p : Nat} (hk : ∀ a, a < nx M → kd N a = kd M a) (hn : nx M ≤ nx N) (hr : ∀ i, gr N (p + 1) i = gr M (p + 1) i) (h : PC M M p) : PC N N p := by
  refine ⟨fun j a hj hja => ?_, fun i j a hi hj h1 h2 => ?_⟩
  · have hja' := hja
    rw [hr] at hja'
    obtain ⟨-, b, c, d⟩ := h.1 j a hj hja'
    exact ⟨Or.inl hja, b, by omega, by rw [hk a c]; exact d⟩
  · rw [hr] at h1 h2
    exact h.2 i j a hi hj h1 h2
theorem PLI_f {M N : mM} (hk : ∀ a, a < nx M → kd N a = kd M a) (hn : nx M ≤ nx N) (hr : ∀ a i, a = 32 ∨ a = 34 → gr N a i = gr M a i) (hr0 : ∀ i, i = 7 ∨ i = 8 → gr N 0 i = gr M 0 i) (hg : ∀ a i, a = 31 ∨ a = 33 ∨ (a = 35 ∧ 61 ≤ i ∧ i ≤ 64) ∨ (72 ≤ a ∧ a ≤ 83) → gi N a i = gi M a i) (hc : ∀ a i, 88 ≤ a → a < nx M → kd M a = 0 → gi N a i = gi M a i) (h : PLI M) : PLI N := by
  obtain ⟨⟨p1, p2, p3⟩, x, s, x1, x2, x3, x4⟩ := h
  refine ⟨⟨PC_f hk hn (fun i => hr 32 i (Or.inl rfl)) p1, PC_f hk hn (fun i => hr 34 i (Or.inr rfl)) p2, fun i j a hi hj h1 h2 => ?_⟩, x, s, by rw [hr0 7 (Or.inl rfl)]; exact x1, by rw [hr0 8 (Or.inr rfl)]; exact x2, x3, ?_⟩
  · rw [hr 32 i (Or.inl rfl)] at h1
    rw [hr 34 j (Or.inr rfl)] at h2
    exact p3 i j a hi hj h1 h2
  have gx : ∀ i, gi N x i = gi M x i := fun i => hg x i (by omega)
  have g35 : ∀ i, 61 ≤ i → i ≤ 64 → gi N 35 i = gi M 35 i := fun i h1 h2 => hg 35 i (by omega)
  have gt : ∀ a i, 72 ≤ a → a ≤ 83 → gi N a i = gi M a i := fun a i h1 h2 => hg a i (by omega)
  have hrx : ∀ i, gr N (x + 1) i = gr M (x + 1) i := fun i => hr _ i (by omega)
  have pcx : PC M M x := by
    rcases x3 with ⟨w, -⟩ | ⟨w, -⟩
    · rw [w]; exact p1
    · rw [w]; exact p2
  rcases x4 with w | ⟨n, t, k, w1, w2, w3, w4, w5, w6, w7, w8, w9, w10⟩
  · refine Or.inl ?_
    rw [g35 61 (by decide) (by decide), gx, gx]
    exact w
  · refine Or.inr ⟨n, t, k, by rw [g35 61 (by decide) (by decide)]; exact w1, by rw [gx]; exact w2, w3, by rw [gx]; exact w4, by rw [g35 62 (by decide) (by decide)]; exact w5, by rw [g35 63 (by decide) (by decide)]; exact w6, w7, by rw [gx]; exact w8, by rw [gx, g35 64 (by decide) (by decide)]; exact w9, fun j hj => ?_⟩
    obtain ⟨a, a1, a2, a3⟩ := w10 j hj
    obtain ⟨-, b, c, d⟩ := pcx.1 j a (by omega) a1
    have ga : ∀ i, gi N a i = gi M a i := fun i => hc a i b c d
    refine ⟨a, by rw [hrx]; exact a1, ?_, ?_⟩
    · rw [ga, ga, ga, ga, ga, ga, gt 72 _ (by decide) (by decide), gt 77 _ (by decide) (by decide), gt 78 _ (by decide) (by decide), gt 79 _ (by decide) (by decide), gt 76 _ (by decide) (by decide), gt 74 _ (by decide) (by decide)]
      exact a2
    · rw [ga, ga, ga, ga, gt 80 _ (by decide) (by decide), gt 82 _ (by decide) (by decide), gt 83 _ (by decide) (by decide)]
      exact a3
def I2b (M : mM) : Prop := ∀ i : Nat, (i : Int) < gi M 16 0 → -128 ≤ gi M 17 i ∧ gi M 17 i ≤ 127
def REST (M : mM) : Prop := I2 M ∧ I2b M ∧ WI M ∧ KY M ∧ PLI M
def restS (a i : Nat) : Prop := (a = 16 ∧ i = 0) ∨ a = 17 ∨ (a = 35 ∧ (i = 2 ∨ i = 18 ∨ (61 ≤ i ∧ i ≤ 64))) ∨ a = 36 ∨ (21 ≤ a ∧ a ≤ 24) ∨ (26 ≤ a ∧ a ≤ 29) ∨ a = 31 ∨ a = 33 ∨ (42 ≤ a ∧ a ≤ 53) ∨ (72 ≤ a ∧ a ≤ 83)
theorem I2_f {M N : mM} (h0 : gi N 16 0 = gi M 16 0) (h2 : gi N 35 2 = gi M 35 2) (h17 : ∀ i, gi N 17 i = gi M 17 i) (h36 : ∀ i, gi N 36 i = gi M 36 i) (h : I2 M) : I2 N := by
  unfold I2 at h ⊢
  simp only [h0, h2, h17, h36]
  exact h
theorem REST_f {M N : mM} (hk : ∀ a, a < nx M → kd N a = kd M a) (hn : nx M ≤ nx N) (hr : ∀ a i, a = 32 ∨ a = 34 ∨ a = 0 → gr N a i = gr M a i) (hg : ∀ a i, restS a i → gi N a i = gi M a i) (hc : ∀ a i, 88 ≤ a → a < nx M → kd M a = 0 → gi N a i = gi M a i) (h : REST M) : REST N := by
  obtain ⟨h1, h2, h3, h4, h5⟩ := h
  have g16 : gi N 16 0 = gi M 16 0 := hg 16 0 (by unfold restS; omega)
  have g17 : ∀ i, gi N 17 i = gi M 17 i := fun i => hg 17 i (by unfold restS; omega)
  refine ⟨I2_f g16 (hg 35 2 (by unfold restS; omega)) g17 (fun i => hg 36 i (by unfold restS; omega)) h1, ?_, WI_f (fun i _ => hr 0 i (by omega)) (hg 35 18 (by unfold restS; omega)) (fun a i w => hg a i (by unfold restS; omega)) (fun a i w => hg a i (by unfold restS; omega)) h3, fun k hk => by rw [hg 42 k (by unfold restS; omega)]; exact h4 k hk, PLI_f hk hn (fun a i w => hr a i (by omega)) (fun i _ => hr 0 i (by omega)) (fun a i w => hg a i (by unfold restS; omega)) hc h5⟩
  intro i hi
  rw [g16] at hi
  rw [g17]
  exact h2 i hi
def INV (M : mM) : Prop := TI M ∧ REST M
/-- the class's survey leaves the rest -/
theorem REST_day {M N : mM} (hs : SH M) (h : FRM (dayS M) colT M N) (hR : REST M) : REST N := by
  have h8 := hs.2.2.2
  refine REST_f (fun a ha => (h.2.2.1 a ha).1) h.2.2.2.1 (fun a i w => h.2.1 a i (by omega) (by unfold colT; omega)) (fun a i w => ?_) (fun a i h1 h2 h3 => ?_) hR
  · have ha : a < 88 := by unfold restS at w; omega
    refine h.1 a i (by omega) (fun v => ?_)
    unfold dayS isRow at v
    unfold restS at w
    have : kd M a ≠ 6 := by
      rw [hs.1 a ha]
      exact (by decide : ∀ a : Fin 88, 16 ≤ a.val → kdT.getD a.val 0 ≠ 6) ⟨a, ha⟩ (by simp only; omega)
    omega
  · refine h.1 a i h2 (fun v => ?_)
    unfold dayS isRow at v
    omega
/-- so do ints of scratch cells -/
theorem REST_YF {S : Nat → Nat → Prop} {M N : mM} (h : YF S M N) (hS : ∀ a i, S a i → a < 88 ∧ ¬ restS a i) (hR : REST M) : REST N := by
  refine REST_f (fun a _ => YF_k h a) (by rw [YF_n h]; exact Nat.le_refl _) (fun a i _ => YF_r h a i) (fun a i w => h.2 a i (fun v => (hS a i v).2 w)) (fun a i h1 h2 h3 => h.2 a i (fun v => by have := (hS a i v).1; omega)) hR
theorem REST_md {M N : mM} (h : YF mdS M N) (hR : REST M) : REST N := REST_YF h (fun a i w => by unfold mdS at w; unfold restS; omega) hR
/-- scratch: the stacks of both -/
def skS (a i : Nat) : Prop := a = 25 ∨ a = 30 ∨ a = 71
theorem REST_sk {M N : mM} (h : YF skS M N) (hR : REST M) : REST N := REST_YF h (fun a i w => by unfold skS at w; unfold restS; omega) hR
theorem TI_sk {M N : mM} (h : YF skS M N) (hT : TI M) : TI N := by
  obtain ⟨h0, h1, h3, hf, ⟨S, p, hS, hp⟩, hc, hm⟩ := hT
  have hN := YF_SH h h0
  have F := YF_FRM h
  have ts : TS skS (fun _ => False) M := by
    refine ⟨fun a i ha w => ?_, fun a ha w => w.elim⟩
    unfold skS at w
    have k : kd M a = 14 := by
      rcases w with rfl | rfl | rfl
      · exact hk25 h0
      · exact hk30 h0
      · exact hk71 h0
    exact ⟨by omega, by omega, by omega⟩
  have i1 := h1
  obtain ⟨-, -, ⟨b7, b8, b9⟩, -⟩ := i1
  have g : ∀ a i, a ≠ 25 → a ≠ 30 → a ≠ 71 → gi N a i = gi M a i := fun a i q1 q2 q3 => h.2 a i (by unfold skS; omega)
  refine ⟨hN, FRM_I1 F h0 ts h1, FRM_I3 F h0 ts h3, FRM_FM F h0 ts hf, ⟨S, p, by rw [g 1 1 (by decide) (by decide) (by decide)]; exact hS, FRM_RK F h0 ts hp⟩, ⟨SO_f h.1 hc.1, ?_⟩, DM_f hf (fun i => g 35 i (by decide) (by decide) (by decide)) (fun i => g 65 i (by decide) (by decide) (by decide)) (fun a i q1 q2 => g a i (by omega) (by omega) (by omega)) (fun n => FRM_fe F h0 ts n) hm⟩
  rcases hc.2 with w | ⟨n, W, w1, w2, w3, w4, w5⟩
  · exact Or.inl (by rw [g 5 1 (by decide) (by decide) (by decide)]; exact w)
  · have c6 := cnt_600 hf (n := n) (by omega) W
    refine Or.inr ⟨n, W, by rw [g 5 1 (by decide) (by decide) (by decide)]; exact w1, by rw [g 5 2 (by decide) (by decide) (by decide)]; exact w2, by rw [g 1 2 (by decide) (by decide) (by decide)]; exact w3, w4, ?_⟩
    refine DAYC_fe hf (by omega) (FRM_fe F h0 ts n) w4 w5 hc.1 h0 (by omega) (g 5 0 (by decide) (by decide) (by decide)) (fun a t h1 h2 => g a t (by omega) (by omega) (by omega)) (fun j => YF_r h 14 j) (fun a i ha hk => ⟨?_, by rw [YF_k h]; exact hk⟩)
    refine g a i ?_ ?_ ?_
    · rintro rfl; rw [hk25 h0] at hk; omega
    · rintro rfl; rw [hk30 h0] at hk; omega
    · rintro rfl; rw [hk71 h0] at hk; omega
