/-! ===== showings: where they start, how many there can be ===== -/
def ctp (p : Nat → Bool) : Nat → Nat
  | 0 => 0
  | t + 1 => ctp p t + (if p t = true then 1 else 0)
theorem ctp_mono (p : Nat → Bool) (t : Nat) : ctp p t ≤ ctp p (t + 1) := Nat.le_add_right _ _
theorem ctp_le {p q : Nat → Bool} : ∀ T, (∀ t, t < T → p t = true → q t = true) → ctp p T ≤ ctp q T := by
  intro T
  induction T with
  | zero => intro _; exact Nat.le_refl 0
  | succ T ih =>
    intro h
    have := ih (fun t ht => h t (by omega))
    have h2 := h T (Nat.lt_succ_self T)
    rw [ctp, ctp]
    by_cases a : p T = true
    · rw [if_pos a, if_pos (h2 a)]; omega
    · rw [if_neg a]; omega
theorem ctp_or {p q : Nat → Bool} : ∀ T, ctp (fun t => p t || q t) T ≤ ctp p T + ctp q T := by
  intro T
  induction T with
  | zero => exact Nat.le_refl 0
  | succ T ih =>
    rw [ctp, ctp, ctp]
    by_cases a : p T = true
    · rw [if_pos (by rw [a]; rfl), if_pos a]; omega
    · by_cases b : q T = true
      · rw [if_pos (by rw [b, Bool.or_true]), if_pos b]; omega
      · rw [if_neg (by rw [Bool.or_eq_true]; exact fun w => w.elim a b)]; omega
theorem ctp_eq (x : Int) : ∀ T : Nat, ctp (fun t => decide (x = t)) T ≤ (if x < T then 1 else 0) := by
  intro T
  induction T with
  | zero => exact Nat.zero_le _
  | succ T ih =>
    rw [ctp]
    by_cases a : x = (T : Int)
    · rw [if_neg (by omega)] at ih
      rw [if_pos (by exact decide_eq_true a), if_pos (by omega)]; omega
    · rw [if_neg (by simpa using a)]
      by_cases b : x < T
      · rw [if_pos b] at ih
        rw [if_pos (by omega)]; omega
      · rw [if_neg b] at ih; omega
/-- a run starts at t -/
def stR (row : Nat → Int) (t : Nat) : Bool := decide (row t ≠ -1 ∧ (t = 0 ∨ row (t - 1) ≠ row t))
theorem stR_iff {row : Nat → Int} {t : Nat} : stR row t = true ↔ row t ≠ -1 ∧ (t = 0 ∨ row (t - 1) ≠ row t) := decide_eq_true_iff
theorem ctp_congr {p q : Nat → Bool} : ∀ T, (∀ t, t < T → p t = q t) → ctp p T = ctp q T := by
  intro T
  induction T with
  | zero => intro _; rfl
  | succ T ih =>
    intro h
    rw [ctp, ctp, ih (fun t ht => h t (by omega)), h T (Nat.lt_succ_self T)]
theorem stR_congr {r q : Nat → Int} {t : Nat} (h : ∀ j, j ≤ t → r j = q j) : stR r t = stR q t := by
  unfold stR
  rw [h t (Nat.le_refl t), h (t - 1) (by omega)]
theorem psr_ct (row : Nat → Int) : ∀ (r k p : Nat) (cur : Nat → Int), k + r = 288 → 1 ≤ k → ctp (stR cur) (min (k + p) 288) ≤ ctp (stR row) k → (row (k - 1) ≠ -1 → k + p ≤ 288 → cur (k + p - 1) = row (k - 1)) → ctp (stR (psr row r k p cur)) 288 ≤ ctp (stR row) 288 := by
  intro r
  induction r with
  | zero =>
    intro k p cur hk h1 h2 h3
    rw [psr]
    have e : k = 288 := by omega
    subst e
    rw [Nat.min_eq_right (by omega)] at h2
    exact h2
  | succ r ih =>
    intro k p cur hk h1 h2 h3
    rw [psr]
    have hm := ctp_mono (stR row) k
    by_cases q : row k = -1 ∧ 0 < p
    · rw [if_pos q]
      refine ih (k + 1) (p - 1) cur (by omega) (by omega) ?_ ?_
      · rw [show k + 1 + (p - 1) = k + p by omega]; omega
      · intro w
        rw [show k + 1 - 1 = k by omega] at w
        exact absurd q.1 w
    · rw [if_neg q]
      by_cases q2 : k + p < 288
      · rw [if_pos q2]
        refine ih (k + 1) p _ (by omega) (by omega) ?_ ?_
        · rw [Nat.min_eq_left (by omega)] at h2
          rw [Nat.min_eq_left (by omega), show k + 1 + p = (k + p) + 1 by omega, ctp, ctp]
          have e : ctp (stR (fun j => if j = k + p then row k else cur j)) (k + p) = ctp (stR cur) (k + p) := by
            refine ctp_congr _ (fun t ht => stR_congr (fun j hj => ?_))
            rw [if_neg (by omega)]
          rw [e]
          by_cases a : stR (fun j => if j = k + p then row k else cur j) (k + p) = true
          · have a' := stR_iff.mp a
            rw [if_pos rfl, if_neg (show ¬ k + p - 1 = k + p by omega)] at a'
            have b : stR row k = true := by
              refine stR_iff.mpr ⟨a'.1, Or.inr (fun w => ?_)⟩
              rcases a'.2 with z | z
              · omega
              · exact z ((h3 (by rw [w]; exact a'.1) (by omega)).trans w)
            rw [if_pos a, if_pos b]; omega
          · rw [if_neg a]; omega
        · intro _ _
          rw [show k + 1 - 1 = k by omega, show k + 1 + p - 1 = k + p by omega, if_pos rfl]
      · rw [if_neg q2]
        refine ih (k + 1) p cur (by omega) (by omega) ?_ ?_
        · rw [Nat.min_eq_right (by omega)] at h2 ⊢; omega
        · intro _ w; omega
theorem psh_ct (M : mM) (row : Nat → Int) {t d : Nat} (ht : 1 ≤ t) (ht2 : t ≤ 287) (hd : 1 ≤ d) : ctp (stR (psh M row t d)) 288 ≤ ctp (stR row) 288 := by
  unfold psh
  split
  · exact Nat.le_refl _
  · refine psr_ct row _ _ _ _ (by omega) ht ?_ ?_
    · have key : ∀ e, e ≤ d → ctp (stR (ps0 row t d)) (t + e) = ctp (stR row) t := by
        intro e
        induction e with
        | zero =>
          intro _
          refine ctp_congr _ (fun j hj => stR_congr (fun i hi => ?_))
          unfold ps0
          rw [if_pos (by omega)]
        | succ e ih =>
          intro he
          have hz : ¬ stR (ps0 row t d) (t + e) = true := by
            intro w
            have w' := (stR_iff.mp w).2
            rcases w' with z | z
            · omega
            · refine z ?_
              unfold ps0
              rw [if_neg (show ¬ t + e < t by omega), if_pos (show t + e < t + d by omega)]
              by_cases y : e = 0
              · subst y
                rw [if_pos (by omega)]; rfl
              · rw [if_neg (by omega), if_pos (by omega)]
          rw [← Nat.add_assoc, ctp, ih (by omega), if_neg hz]; rfl
      by_cases q : t + d ≤ 288
      · rw [Nat.min_eq_left q, key d (Nat.le_refl d)]; exact Nat.le_refl _
      · rw [Nat.min_eq_right (by omega)]
        have := key (288 - t) (by omega)
        rw [show t + (288 - t) = 288 by omega] at this
        rw [this]; exact Nat.le_refl _
    · intro _ _
      unfold ps0
      by_cases y : d = 0
      · omega
      · rw [if_neg (by omega), if_pos (by omega)]
/-- an end of a notice among the first n on channel c -/
def eg (M : mM) (c : Int) : Nat → Nat → Bool
  | 0, _ => false
  | n + 1, t => eg M c n t || (decide (gi M 56 n = 0 ∧ gi M 58 n = c) && (decide (gi M 59 n = t) || decide (gi M 60 n = t)))
def nc (M : mM) (c : Int) : Nat → Nat
  | 0 => 0
  | n + 1 => nc M c n + (if gi M 56 n = 0 ∧ gi M 58 n = c then 1 else 0)
theorem ctp_f : ∀ T, ctp (fun _ => false) T = 0
  | 0 => rfl
  | T + 1 => by rw [ctp, ctp_f T]; rfl
theorem eg_ct (M : mM) (c : Int) (T : Nat) : ∀ n, ctp (eg M c n) T ≤ 2 * nc M c n := by
  intro n
  induction n with
  | zero => 
    have e : eg M c 0 = fun _ => false := rfl
    rw [e, ctp_f]; exact Nat.zero_le _
  | succ n ih =>
    have e : eg M c (n + 1) = fun t => eg M c n t || (decide (gi M 56 n = 0 ∧ gi M 58 n = c) && (decide (gi M 59 n = t) || decide (gi M 60 n = t))) := rfl
    rw [e, nc]
    have h := ctp_or (p := eg M c n) (q := fun t => decide (gi M 56 n = 0 ∧ gi M 58 n = c) && (decide (gi M 59 n = t) || decide (gi M 60 n = t))) T
    by_cases q : gi M 56 n = 0 ∧ gi M 58 n = c
    · have e2 : (fun t : Nat => decide (gi M 56 n = 0 ∧ gi M 58 n = c) && (decide (gi M 59 n = t) || decide (gi M 60 n = t))) = fun t : Nat => decide (gi M 59 n = t) || decide (gi M 60 n = t) := by
        funext t
        rw [decide_eq_true q, Bool.true_and]
      rw [e2] at h
      have h2 := ctp_or (p := fun t => decide (gi M 59 n = t)) (q := fun t => decide (gi M 60 n = t)) T
      have h3 := ctp_eq (gi M 59 n) T
      have h4 := ctp_eq (gi M 60 n) T
      have h5 : (if gi M 59 n < (T : Int) then 1 else 0) ≤ 1 := by split <;> omega
      have h6 : (if gi M 60 n < (T : Int) then 1 else 0) ≤ 1 := by split <;> omega
      rw [if_pos q]
      omega
    · have e2 : (fun t : Nat => decide (gi M 56 n = 0 ∧ gi M 58 n = c) && (decide (gi M 59 n = t) || decide (gi M 60 n = t))) = fun _ => false := by
        funext t
        rw [decide_eq_false q, Bool.false_and]
      rw [e2, ctp_f] at h
      rw [if_neg q]
      omega
theorem hrd_eg {M : mM} {c : Int} {t : Nat} (s : Int) : ∀ n, eg M c n (t + 1) = false → hrd M s c n (t + 1) = hrd M s c n t := by
  intro n
  induction n with
  | zero => intro _; rfl
  | succ n ih =>
    intro h
    rw [eg, Bool.or_eq_false_iff] at h
    rw [hrd, hrd, ih h.1]
    by_cases q : gi M 56 n = 0 ∧ gi M 58 n = c
    · have h2 := h.2
      rw [decide_eq_true q, Bool.true_and, Bool.or_eq_false_iff, decide_eq_false_iff_not, decide_eq_false_iff_not] at h2
      have e : (gi M 56 n = 0 ∧ gi M 57 n = s ∧ gi M 58 n = c ∧ gi M 59 n ≤ ((t + 1 : Nat) : Int) ∧ ((t + 1 : Nat) : Int) < gi M 60 n) ↔ (gi M 56 n = 0 ∧ gi M 57 n = s ∧ gi M 58 n = c ∧ gi M 59 n ≤ (t : Int) ∧ (t : Int) < gi M 60 n) := by
        constructor
        · rintro ⟨a1, a2, a3, a4, a5⟩
          exact ⟨a1, a2, a3, by omega, by omega⟩
        · rintro ⟨a1, a2, a3, a4, a5⟩
          exact ⟨a1, a2, a3, by omega, by omega⟩
      simp only [e]
    · rw [if_neg (fun w => q ⟨w.1, w.2.2.1⟩), if_neg (fun w => q ⟨w.1, w.2.2.1⟩)]
theorem hrd_eg0 {M : mM} (hf : FM M) {c : Int} (s : Int) : ∀ n : Nat, (n : Int) ≤ gi M 35 37 → eg M c n 0 = false → hrd M s c n 0 = -1 := by
  intro n
  induction n with
  | zero => intro _ _; rfl
  | succ n ih =>
    intro hn h
    rw [eg, Bool.or_eq_false_iff] at h
    rw [hrd, ih (by omega) h.1, if_neg]
    intro w
    have h2 := h.2
    rw [decide_eq_true (⟨w.1, w.2.2.1⟩ : gi M 56 n = 0 ∧ gi M 58 n = c), Bool.true_and, Bool.or_eq_false_iff, decide_eq_false_iff_not] at h2
    have := ((hf n (by omega)).2.2.1 w.1).2.1
    omega
theorem wn_eq {M : mM} {c : Int} {n t t' : Nat} (h : ∀ s : Int, hrd M s c n t = hrd M s c n t') : ∀ s, wn M c n t s = wn M c n t' s := by
  intro s
  induction s with
  | zero => rfl
  | succ s ih => rw [wn, wn, ih, h]
theorem wn_none {M : mM} {c : Int} {n t : Nat} (h : ∀ s : Int, hrd M s c n t = -1) : ∀ s, wn M c n t s = -1 := by
  intro s
  induction s with
  | zero => rfl
  | succ s ih => rw [wn, ih, h, if_neg (fun w => w.1 rfl)]
theorem bs_ct {M : mM} (hf : FM M) {n : Nat} (hn : (n : Int) ≤ gi M 35 37) (c : Int) : ctp (stR (bs M c n)) 288 ≤ 2 * nc M c n := by
  refine Nat.le_trans (ctp_le 288 (fun t ht h => ?_)) (eg_ct M c 288 n)
  have h' := stR_iff.mp h
  by_cases q : eg M c n t = true
  · exact q
  · exfalso
    have q' : eg M c n t = false := by simpa using q
    cases t with
    | zero =>
      refine h'.1 ?_
      unfold bs
      rw [wn_none (fun s => hrd_eg0 hf s n hn q'), vlo_n]
    | succ t =>
      rcases h'.2 with z | z
      · omega
      · refine z ?_
        unfold bs
        rw [show t + 1 - 1 = t by omega, wn_eq (fun s => hrd_eg s n q')]
theorem dyr_ct {M : mM} (hf : FM M) {n : Nat} (hn : (n : Int) ≤ gi M 35 37) (c : Int) : ∀ k, k ≤ n → ctp (stR (dyr M c n k)) 288 ≤ 2 * nc M c n := by
  intro k
  induction k with
  | zero => intro _; exact bs_ct hf hn c
  | succ k ih =>
    intro hk
    rw [dyr]
    split
    · rename_i q
      have := (hf k (by omega)).2.2.2 q.1
      exact Nat.le_trans (psh_ct M _ (by omega) (by omega) (by omega)) (ih (by omega))
    · exact ih (by omega)
/-! counting by slots and channels -/
def stt (D : Nat → Nat → Int) (c t : Nat) : Bool := stR (D c) t
def cnr (D : Nat → Nat → Int) (t : Nat) (c : Nat) : Nat := ctp (fun c => stt D c t) c
def cnt (D : Nat → Nat → Int) (W : Nat) : Nat → Nat
  | 0 => 0
  | t + 1 => cnt D W t + cnr D t W
def cn (D : Nat → Nat → Int) (W t c : Nat) : Nat := cnt D W t + cnr D t c
def cc (D : Nat → Nat → Int) (T : Nat) : Nat → Nat
  | 0 => 0
  | c + 1 => cc D T c + ctp (stR (D c)) T
theorem cc_s (D : Nat → Nat → Int) (T : Nat) : ∀ W, cc D (T + 1) W = cc D T W + cnr D T W := by
  intro W
  induction W with
  | zero => rfl
  | succ W ih =>
    rw [cc, cc, ih]
    unfold cnr
    rw [ctp, ctp]
    unfold stt
    omega
theorem cnt_cc (D : Nat → Nat → Int) (W : Nat) : ∀ T, cnt D W T = cc D T W := by
  intro T
  induction T with
  | zero =>
    have : ∀ W, cc D 0 W = 0 := by
      intro W
      induction W with
      | zero => rfl
      | succ W ih => rw [cc, ih]; rfl
    rw [this]; rfl
  | succ T ih => rw [cnt, cc_s, ih]
theorem nc_sum (M : mM) : ∀ n W : Nat, ∃ s : Nat → Nat, s 0 = 0 ∧ (∀ c, s (c + 1) = s c + nc M c n) ∧ s W ≤ n := by
  intro n W
  have ex : ∃ s : Nat → Nat, s 0 = 0 ∧ ∀ c, s (c + 1) = s c + nc M c n := ⟨fun c => Nat.rec 0 (fun c q => q + nc M c n) c, rfl, fun c => rfl⟩
  obtain ⟨s, h0, hs⟩ := ex
  refine ⟨s, h0, hs, ?_⟩
  induction n generalizing s with
  | zero =>
    have : ∀ c, s c = 0 := by
      intro c
      induction c with
      | zero => exact h0
      | succ c ih => rw [hs, ih]; rfl
    rw [this]; exact Nat.le_refl 0
  | succ n ih =>
    have hq : ∀ c, (Nat.rec 0 (fun c q => q + nc M c n) c : Nat) = Nat.rec 0 (fun c q => q + nc M c n) c := fun _ => rfl
    have key : ∀ c, s c ≤ (Nat.rec 0 (fun c q => q + nc M c n) c : Nat) + (if gi M 58 n < c then 1 else 0) := by
      intro c
      induction c with
      | zero => rw [h0]; exact Nat.zero_le _
      | succ c ihc =>
        rw [hs, nc]
        show _ ≤ (Nat.rec 0 (fun c q => q + nc M c n) c : Nat) + nc M c n + _
        by_cases a : gi M 56 n = 0 ∧ gi M 58 n = c
        · rw [if_neg (by omega)] at ihc
          rw [if_pos a, if_pos (by omega)]; omega
        · rw [if_neg a]
          have : (if gi M 58 n < (c : Int) then 1 else 0) ≤ (if gi M 58 n < ((c + 1 : Nat) : Int) then 1 else 0) := by
            by_cases b : gi M 58 n < (c : Int)
            · rw [if_pos b, if_pos (by omega)]; exact Nat.le_refl _
            · rw [if_neg b]; exact Nat.zero_le _
          omega
    have := ih (fun c => Nat.rec 0 (fun c q => q + nc M c n) c) rfl (fun c => rfl)
    have k := key W
    have : (if gi M 58 n < (W : Int) then 1 else 0) ≤ 1 := by split <;> omega
    omega
/-- no more than two showings for a notice -/
theorem cnt_600 {M : mM} (hf : FM M) {n : Nat} (hn : (n : Int) ≤ gi M 35 37) (W : Nat) : cnt (dy M n) W 288 ≤ 2 * n := by
  obtain ⟨s, h0, hs, hW⟩ := nc_sum M n W
  rw [cnt_cc]
  have : ∀ W, cc (dy M n) 288 W ≤ 2 * s W := by
    intro W
    induction W with
    | zero => exact Nat.zero_le _
    | succ W ih =>
      rw [cc, hs]
      have : ctp (stR (dy M n W)) 288 ≤ 2 * nc M W n := dyr_ct hf hn W n (Nat.le_refl n)
      omega
  have := this W
  omega
