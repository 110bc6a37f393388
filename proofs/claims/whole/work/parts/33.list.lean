/-! ===== showings in their order ===== -/
def psl (D : Nat → Nat → Int) (t : Nat) : Nat → List (Nat × Nat)
  | 0 => []
  | c + 1 => psl D t c ++ (if stt D c t = true then [(t, c)] else [])
def pst (D : Nat → Nat → Int) (W : Nat) : Nat → List (Nat × Nat)
  | 0 => []
  | t + 1 => pst D W t ++ psl D t W
theorem psl_len (D : Nat → Nat → Int) (t : Nat) : ∀ c, (psl D t c).length = cnr D t c := by
  intro c
  induction c with
  | zero => rfl
  | succ c ih =>
    unfold cnr at ih ⊢
    rw [psl, List.length_append, ih, ctp]
    congr 1
    split <;> rfl
theorem pst_len (D : Nat → Nat → Int) (W : Nat) : ∀ t, (pst D W t).length = cnt D W t := by
  intro t
  induction t with
  | zero => rfl
  | succ t ih => rw [pst, List.length_append, ih, psl_len, cnt]
theorem psl_pre {D : Nat → Nat → Int} {t c : Nat} (h : stt D c t = true) : ∀ W, c < W → ∃ r, psl D t W = psl D t c ++ (t, c) :: r := by
  intro W
  induction W with
  | zero => intro w; omega
  | succ W ih =>
    intro w
    rw [psl]
    by_cases q : c = W
    · subst q
      rw [if_pos h]
      exact ⟨[], rfl⟩
    · obtain ⟨r, hr⟩ := ih (by omega)
      rw [hr]
      exact ⟨r ++ (if stt D W t = true then [(t, W)] else []), by rw [List.append_assoc]; rfl⟩
theorem pst_pre {D : Nat → Nat → Int} {W t : Nat} : ∀ T, t < T → ∃ r, pst D W T = pst D W t ++ psl D t W ++ r := by
  intro T
  induction T with
  | zero => intro w; omega
  | succ T ih =>
    intro w
    rw [pst]
    by_cases q : t = T
    · subst q
      exact ⟨[], (List.append_nil _).symm⟩
    · obtain ⟨r, hr⟩ := ih (by omega)
      rw [hr]
      exact ⟨r ++ psl D T W, by rw [List.append_assoc]⟩
/-- the place of showing k: its first slot and its channel -/
def pk (D : Nat → Nat → Int) (W k : Nat) : Nat × Nat := (pst D W 288).getD k (0, 0)
theorem pk_at {D : Nat → Nat → Int} {W t c : Nat} (ht : t < 288) (hc : c < W) (h : stt D c t = true) : pk D W (cn D W t c) = (t, c) ∧ cn D W t c < cnt D W 288 := by
  obtain ⟨r1, h1⟩ := psl_pre h W hc
  obtain ⟨r2, h2⟩ := pst_pre (D := D) (W := W) 288 ht
  rw [h1] at h2
  have e : pst D W 288 = (pst D W t ++ psl D t c) ++ (t, c) :: (r1 ++ r2) := by rw [h2]; simp
  have l : (pst D W t ++ psl D t c).length = cn D W t c := by rw [List.length_append, pst_len, psl_len]; rfl
  constructor
  · unfold pk
    rw [e, ← l, List.getD_eq_getElem?_getD, List.getElem?_append_right (Nat.le_refl _), Nat.sub_self]
    rfl
  · rw [← pst_len, e, List.length_append, l, List.length_cons]
    omega
theorem psl_mem {D : Nat → Nat → Int} {t : Nat} : ∀ c x, x ∈ psl D t c → x.1 = t ∧ x.2 < c ∧ stt D x.2 x.1 = true := by
  intro c
  induction c with
  | zero => intro x h; cases h
  | succ c ih =>
    intro x h
    rw [psl, List.mem_append] at h
    rcases h with h | h
    · obtain ⟨a, b, e⟩ := ih x h
      exact ⟨a, by omega, e⟩
    · by_cases q : stt D c t = true
      · rw [if_pos q, List.mem_singleton] at h
        subst h
        exact ⟨rfl, Nat.lt_succ_self c, q⟩
      · rw [if_neg q] at h; cases h
theorem pst_mem {D : Nat → Nat → Int} {W : Nat} : ∀ T x, x ∈ pst D W T → x.1 < T ∧ x.2 < W ∧ stt D x.2 x.1 = true := by
  intro T
  induction T with
  | zero => intro x h; cases h
  | succ T ih =>
    intro x h
    rw [pst, List.mem_append] at h
    rcases h with h | h
    · obtain ⟨a, b, e⟩ := ih x h
      exact ⟨by omega, b, e⟩
    · obtain ⟨a, b, e⟩ := psl_mem W x h
      exact ⟨by omega, b, e⟩
theorem pk_ok {D : Nat → Nat → Int} {W k : Nat} (h : k < cnt D W 288) : (pk D W k).1 < 288 ∧ (pk D W k).2 < W ∧ stt D (pk D W k).2 (pk D W k).1 = true := by
  rw [← pst_len] at h
  unfold pk
  rw [List.getD_eq_getElem?_getD, List.getElem?_eq_getElem h]
  exact pst_mem 288 _ (List.getElem_mem h)
theorem psl_pw (D : Nat → Nat → Int) (t : Nat) : ∀ c, (psl D t c).Pairwise (fun x y => x.1 ≤ y.1) := by
  intro c
  induction c with
  | zero => exact List.Pairwise.nil
  | succ c ih =>
    rw [psl, List.pairwise_append]
    refine ⟨ih, ?_, fun x hx y hy => ?_⟩
    · split
      · exact List.pairwise_singleton _ _
      · exact List.Pairwise.nil
    · have := psl_mem c x hx
      by_cases q : stt D c t = true
      · rw [if_pos q, List.mem_singleton] at hy
        subst hy
        omega
      · rw [if_neg q] at hy; cases hy
theorem pst_pw (D : Nat → Nat → Int) (W : Nat) : ∀ T, (pst D W T).Pairwise (fun x y => x.1 ≤ y.1) := by
  intro T
  induction T with
  | zero => exact List.Pairwise.nil
  | succ T ih =>
    rw [pst, List.pairwise_append]
    refine ⟨ih, psl_pw D T W, fun x hx y hy => ?_⟩
    have := pst_mem T x hx
    have := psl_mem W y hy
    omega
/-- showings are numbered by their first slots -/
theorem pk_mono {D : Nat → Nat → Int} {W j k : Nat} (h : j < k) (hk : k < cnt D W 288) : (pk D W j).1 ≤ (pk D W k).1 := by
  rw [← pst_len] at hk
  unfold pk
  have hp := pst_pw D W 288
  revert hk hp
  generalize pst D W 288 = L
  intro hk hp
  rw [List.getD_eq_getElem?_getD, List.getD_eq_getElem?_getD, List.getElem?_eq_getElem hk, List.getElem?_eq_getElem (by omega : j < L.length)]
  exact List.pairwise_iff_getElem.mp hp j k (by omega) hk h
/-- the end of a run -/
def eor (row : Nat → Int) (f : Int) : Nat → Nat → Nat
  | 0, i => i
  | r + 1, i => if row i = f then eor row f r (i + 1) else i
theorem eor_le (row : Nat → Int) (f : Int) : ∀ r i, i ≤ eor row f r i ∧ eor row f r i ≤ i + r := by
  intro r
  induction r with
  | zero => intro i; exact ⟨Nat.le_refl _, Nat.le_refl _⟩
  | succ r ih =>
    intro i
    rw [eor]
    split
    · have := ih (i + 1); omega
    · omega
def sT (D : Nat → Nat → Int) (W k : Nat) : Nat := (pk D W k).1
def sC (D : Nat → Nat → Int) (W k : Nat) : Nat := (pk D W k).2
def sF (D : Nat → Nat → Int) (W k : Nat) : Int := D (sC D W k) (sT D W k)
def sU (D : Nat → Nat → Int) (W k : Nat) : Nat := eor (D (sC D W k)) (sF D W k) (287 - sT D W k) (sT D W k + 1)
theorem sU_ok {D : Nat → Nat → Int} {W k : Nat} (h : k < cnt D W 288) : sT D W k < sU D W k ∧ sU D W k ≤ 288 := by
  have h1 := (pk_ok h).1
  have h2 := eor_le (D (sC D W k)) (sF D W k) (287 - sT D W k) (sT D W k + 1)
  unfold sU
  have : sT D W k < 288 := h1
  omega
theorem sF_ne {D : Nat → Nat → Int} {W k : Nat} (h : k < cnt D W 288) : sF D W k ≠ -1 := by
  have h1 := (pk_ok h).2.2
  exact (stR_iff.mp h1).1
/-- one by their marks -/
abbrev aro (M : mM) (F : Nat → Int) (a b : Nat) : Prop := gi M 61 (F a).toNat = gi M 61 (F b).toNat ∧ gi M 62 (F a).toNat = gi M 62 (F b).toNat ∧ gi M 62 (F a).toNat ≠ 0
def lof (M : mM) (F : Nat → Int) (k : Nat) : Nat → Nat → Nat
  | 0, _ => k
  | r + 1, j => if aro M F j k then j else lof M F k r (j + 1)
def lo (M : mM) (F : Nat → Int) (k : Nat) : Nat := lof M F k k 0
def LO (M : mM) (F : Nat → Int) (k v : Nat) : Prop := (v = k ∧ ∀ j, j < k → ¬ aro M F j k) ∨ (v < k ∧ aro M F v k ∧ ∀ j, j < v → ¬ aro M F j k)
theorem lof_LO (M : mM) (F : Nat → Int) (k : Nat) : ∀ r j, j + r = k → (∀ i, i < j → ¬ aro M F i k) → LO M F k (lof M F k r j) := by
  intro r
  induction r with
  | zero =>
    intro j hj h
    rw [lof]
    exact Or.inl ⟨rfl, fun i hi => h i (by omega)⟩
  | succ r ih =>
    intro j hj h
    rw [lof]
    by_cases q : aro M F j k
    · rw [if_pos q]
      exact Or.inr ⟨by omega, q, h⟩
    · rw [if_neg q]
      refine ih (j + 1) (by omega) (fun i hi => ?_)
      by_cases z : i = j
      · rw [z]; exact q
      · exact h i (by omega)
theorem lo_LO (M : mM) (F : Nat → Int) (k : Nat) : LO M F k (lo M F k) := lof_LO M F k k 0 (by omega) (fun i hi => absurd hi (Nat.not_lt_zero i))
theorem LO_1 {M : mM} {F : Nat → Int} {k v w : Nat} (h : LO M F k v) (h' : LO M F k w) : v = w := by
  rcases h with ⟨a, b⟩ | ⟨a, b, c⟩
  · rcases h' with ⟨a', b'⟩ | ⟨a', b', c'⟩
    · rw [a, a']
    · exact absurd b' (b w a')
  · rcases h' with ⟨a', b'⟩ | ⟨a', b', c'⟩
    · exact absurd b (b' v a)
    · by_cases q : v < w
      · exact absurd b (c' v q)
      · by_cases q2 : w < v
        · exact absurd b' (c w q2)
        · omega
theorem lo_le (M : mM) (F : Nat → Int) (k : Nat) : lo M F k ≤ k := by
  rcases lo_LO M F k with ⟨a, -⟩ | ⟨a, -⟩ <;> omega
/-! told things under a frame -/
def TS (S : Nat → Nat → Prop) (T : Nat → Prop) (M : mM) : Prop := (∀ a i, a < nx M → S a i → (a ≠ 1 ∧ a ≠ 18 ∧ a ≠ 20 ∧ a ≠ 35 ∧ ¬ (55 ≤ a ∧ a ≤ 63)) ∧ kd M a ≠ 2 ∧ kd M a ≠ 7) ∧ ∀ a, a < nx M → T a → a ≠ 2 ∧ a ≠ 3 ∧ a ≠ 4 ∧ kd M a ≠ 2
theorem FRM_I1 {S : Nat → Nat → Prop} {T : Nat → Prop} {M N : mM} (h : FRM S T M N) (hs : SH M) (ht : TS S T M) (k : I1 M) : I1 N := by
  have h8 := hs.2.2.2
  have e1 := fun i => h.1 1 i (by omega) (fun w => (ht.1 1 i (by omega) w).1.1 rfl)
  have e18 := fun i => h.1 18 i (by omega) (fun w => (ht.1 18 i (by omega) w).1.2.1 rfl)
  have e20 := fun i => h.1 20 i (by omega) (fun w => (ht.1 20 i (by omega) w).1.2.2.1 rfl)
  have e35 := fun i => h.1 35 i (by omega) (fun w => (ht.1 35 i (by omega) w).1.2.2.2.1 rfl)
  unfold I1 at k ⊢
  simp only [e1, e18, e20, e35]
  exact k
theorem FRM_tb {S : Nat → Nat → Prop} {T : Nat → Prop} {M N : mM} (h : FRM S T M N) (hs : SH M) (ht : TS S T M) {a : Nat} (h1 : 55 ≤ a) (h2 : a ≤ 63) (i : Nat) : gi N a i = gi M a i := by
  have h8 := hs.2.2.2
  exact h.1 a i (by omega) (fun w => (ht.1 a i (by omega) w).1.2.2.2.2 ⟨h1, h2⟩)
theorem FRM_fe {S : Nat → Nat → Prop} {T : Nat → Prop} {M N : mM} (h : FRM S T M N) (hs : SH M) (ht : TS S T M) (n : Nat) : fe n M N := ⟨fun a k h1 h2 _ => FRM_tb h hs ht (by omega) h2 k, fun s _ => FRM_tb h hs ht (by decide) (by decide) s⟩
theorem FRM_FM {S : Nat → Nat → Prop} {T : Nat → Prop} {M N : mM} (h : FRM S T M N) (hs : SH M) (ht : TS S T M) (k : FM M) : FM N := by
  have h8 := hs.2.2.2
  have e35 := fun i => h.1 35 i (by omega) (fun w => (ht.1 35 i (by omega) w).1.2.2.2.1 rfl)
  have e56 := FRM_tb h hs ht (a := 56) (by decide) (by decide)
  have e57 := FRM_tb h hs ht (a := 57) (by decide) (by decide)
  have e58 := FRM_tb h hs ht (a := 58) (by decide) (by decide)
  have e59 := FRM_tb h hs ht (a := 59) (by decide) (by decide)
  have e60 := FRM_tb h hs ht (a := 60) (by decide) (by decide)
  have e61 := FRM_tb h hs ht (a := 61) (by decide) (by decide)
  have e62 := FRM_tb h hs ht (a := 62) (by decide) (by decide)
  have e63 := FRM_tb h hs ht (a := 63) (by decide) (by decide)
  unfold FM at k ⊢
  simp only [e35, e56, e57, e58, e59, e60, e61, e62, e63]
  exact k
theorem FRM_I3 {S : Nat → Nat → Prop} {T : Nat → Prop} {M N : mM} (h : FRM S T M N) (hs : SH M) (ht : TS S T M) (k : I3 M) : I3 N := by
  have h8 := hs.2.2.2
  have hn := h.2.2.2.1
  have e1 := fun i => h.1 1 i (by omega) (fun w => (ht.1 1 i (by omega) w).1.1 rfl)
  have e55 := FRM_tb h hs ht (a := 55) (by decide) (by decide)
  have e56 := FRM_tb h hs ht (a := 56) (by decide) (by decide)
  have e57 := FRM_tb h hs ht (a := 57) (by decide) (by decide)
  have e58 := FRM_tb h hs ht (a := 58) (by decide) (by decide)
  have e59 := FRM_tb h hs ht (a := 59) (by decide) (by decide)
  have e60 := FRM_tb h hs ht (a := 60) (by decide) (by decide)
  have e61 := FRM_tb h hs ht (a := 61) (by decide) (by decide)
  have e62 := FRM_tb h hs ht (a := 62) (by decide) (by decide)
  have e63 := FRM_tb h hs ht (a := 63) (by decide) (by decide)
  have r2 := fun i => h.2.1 2 i (by omega) (fun w => (ht.2 2 (by omega) w).1 rfl)
  have r4 := fun i => h.2.1 4 i (by omega) (fun w => (ht.2 4 (by omega) w).2.2.1 rfl)
  unfold I3 at k ⊢
  simp only [e1, e55, e56, e57, e58, e59, e60, e61, e62, e63, r2, r4]
  refine ⟨fun j hj => ?_, fun j hj => ?_⟩
  · obtain ⟨a, h8, h9, h10, h11, h12⟩ := k.1 j hj
    have ea := fun i => h.1 a i h9 (fun w => (ht.1 a i h9 w).2.2 h11)
    refine ⟨a, h8, by omega, h10, by rw [(h.2.2.1 a h9).1]; exact h11, ?_⟩
    simp only [ea]
    exact h12
  · obtain ⟨a, h8, h9, h10, h11, h12⟩ := k.2 j hj
    have ea := fun i => h.1 a i h9 (fun w => (ht.1 a i h9 w).2.1 h11)
    have ra := fun i => h.2.1 a i h9 (fun w => (ht.2 a h9 w).2.2.2 h11)
    refine ⟨a, h8, by omega, h10, by rw [(h.2.2.1 a h9).1]; exact h11, ?_⟩
    simp only [ea, ra]
    exact h12
theorem FRM_RK {S : Nat → Nat → Prop} {T : Nat → Prop} {M N : mM} (h : FRM S T M N) (hs : SH M) (ht : TS S T M) {n : Nat} {p : Nat → Nat} (k : RKp M n p) : RKp N n p := by
  have h8 := hs.2.2.2
  have e55 := FRM_tb h hs ht (a := 55) (by decide) (by decide)
  have r2 := fun i => h.2.1 2 i (by omega) (fun w => (ht.2 2 (by omega) w).1 rfl)
  have r3 := fun i => h.2.1 3 i (by omega) (fun w => (ht.2 3 (by omega) w).2.1 rfl)
  unfold RKp bts at k ⊢
  simp only [e55, r2, r3]
  exact k
