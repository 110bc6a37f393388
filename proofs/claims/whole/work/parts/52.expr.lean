/-! ===== the reference at token k ===== -/
/-- the tokens of the text lie in T -/
def TKB (B : Nat → Int) (sz : Nat) (T : mM) : Prop := ∃ m, TKS B sz T m ∧ m ≤ 401 ∧ (m ≤ 400 → bg B sz m = sz ∧ gi T 38 m = 0 ∧ gi T 39 m = sz)
theorem tokL {B : Nat → Int} {sz k : Nat} {T : mM} (h : TKB B sz T) (hk : ok B sz k) : (bg B sz k < sz ∧ KR (tk B sz k) (gi T 38 k) ∧ gi T 39 k = (bg B sz k : Nat) ∧ (tk B sz k = 1 → gi T 40 k = tvv B sz k)) ∨ (bg B sz k = sz ∧ gi T 38 k = 0 ∧ gi T 39 k = sz) := by
  obtain ⟨m, h1, h2, h3⟩ := h
  have k4 := ok_400 hk
  by_cases z : k < m
  · exact Or.inl (h1 k z)
  · have m4 : m ≤ 400 := by omega
    obtain ⟨a, b, c⟩ := h3 m4
    by_cases y : m < k
    · have := (hk m y).1; omega
    · have : k = m := by omega
      subst this
      exact Or.inr ⟨a, b, c⟩
theorem KR_c {k m : Int} {c : Nat} (h : KR k m) (h1 : 1 ≤ c) (h2 : c ≤ 25) : m = kmL.getD c 0 ↔ k = c := by
  rcases h with ⟨a, b⟩ | ⟨a, b, e⟩
  · have : ∀ c : Fin 26, 1 ≤ c.val → kmL.getD c.val 0 ≠ 1 ∧ kmL.getD c.val 0 ≠ 3 := by decide
    have := this ⟨c, by omega⟩ h1
    constructor
    · intro w; simp only at this; omega
    · intro w; omega
  · have inj : ∀ c c' : Fin 26, kmL.getD c.val 0 = kmL.getD c'.val 0 → c = c' := by decide
    constructor
    · intro w
      have := inj ⟨k.toNat, by omega⟩ ⟨c, by omega⟩ (by rw [← w, ← e])
      have := congrArg Fin.val this
      simp only at this
      omega
    · intro w
      rw [e, w, Int.toNat_natCast]
theorem KR_v {k m : Int} (h : KR k m) : (27 ≤ m ∧ m ≤ 33) ↔ (2 ≤ k ∧ k ≤ 8) := by
  rcases h with ⟨a, b⟩ | ⟨a, b, e⟩
  · omega
  · have q : ∀ c : Fin 26, 1 ≤ c.val → ((27 ≤ kmL.getD c.val 0 ∧ kmL.getD c.val 0 ≤ 33) ↔ (2 ≤ c.val ∧ c.val ≤ 8)) := by decide
    have := q ⟨k.toNat, by omega⟩ (by simp only; omega)
    rw [← e] at this
    simp only at this
    omega
theorem KR_w {k m : Int} (h : KR k m) (h1 : 2 ≤ k) (h2 : k ≤ 8) : m - 27 = k - 2 := by
  rcases h with ⟨a, b⟩ | ⟨a, b, e⟩
  · omega
  · have q : ∀ c : Fin 26, 2 ≤ c.val → c.val ≤ 8 → kmL.getD c.val 0 - 27 = (c.val : Int) - 2 := by decide
    have := q ⟨k.toNat, by omega⟩ (by simp only; omega) (by simp only; omega)
    rw [← e] at this
    simp only at this
    omega
theorem KR_a {k m : Int} (h : KR k m) (h1 : 17 ≤ k) (h2 : k ≤ 19) : m = k - 9 := by
  rcases h with ⟨a, b⟩ | ⟨a, b, e⟩
  · omega
  · rcases (show k = 17 ∨ k = 18 ∨ k = 19 by omega) with rfl | rfl | rfl <;> rw [e] <;> rfl
theorem KR_0 {k m : Int} (h : KR k m) : m ≠ 0 ∧ 0 ≤ m ∧ m ≤ 33 := by
  rcases h with ⟨a, b⟩ | ⟨a, b, e⟩
  · omega
  · have q : ∀ c : Fin 26, 1 ≤ c.val → kmL.getD c.val 0 ≠ 0 ∧ 0 ≤ kmL.getD c.val 0 ∧ kmL.getD c.val 0 ≤ 33 := by decide
    have := q ⟨k.toNat, by omega⟩ (by simp only; omega)
    rw [← e] at this
    exact this
/-- it stops at token k -/
def FL (B : Nat → Int) (sz k : Nat) (N : mM) : Prop := fin B sz k ∧ gi N 35 13 = rsF B sz k ∧ 0 < rsF B sz k ∧ gi N 35 14 = rsP B sz k ∧ ∃ t : Nat, t ≤ 400 ∧ gi N 35 11 = t
section FLS
variable {B : Nat → Int} {sz k : Nat} {T N : mM} {st dp nt R bs : Nat} {cm : Bool} {am wp ck : Int} {me : Nat → Env → Int} {mt : Nat → Int} {A O L : Env → Int} {w : List Int} {V : Env → List Int}
theorem FL_syn (hT : TKB B sz T) (hk : ok B sz k) (hs : sg B sz k = (st, dp, cm, am, wp, nt, R, me, mt, bs, A, O, ck, L, w, V)) (h0 : st ≠ 0) (hg : bg B sz k < sz → ¬ goes st dp cm (tk B sz k)) (h13 : gi N 35 13 = 1) (h14 : gi N 35 14 = gi T 39 k) (h11 : gi N 35 11 = k) : FL B sz k N := by
  rcases tokL hT hk with ⟨b1, b2, b3, -⟩ | ⟨b1, b2, b3⟩
  · have e : flt (sg B sz k) (tk B sz k) = 1 := by rw [hs]; unfold flt; simp only [if_pos (hg b1)]
    have rf : rsF B sz k = 1 := by unfold rsF; rw [if_pos b1, e]
    refine ⟨⟨hk, Or.inr ⟨b1, by rw [e]; decide⟩⟩, by rw [h13, rf], by rw [rf]; decide, ?_, k, ok_400 hk, h11⟩
    unfold rsP
    rw [if_pos b1, h14, b3]
  · have s0 : (sg B sz k).1 ≠ 0 := by rw [hs]; exact h0
    have rf : rsF B sz k = 1 := by unfold rsF; rw [if_neg (by omega), if_pos s0]
    refine ⟨⟨hk, Or.inl b1⟩, by rw [h13, rf], by rw [rf]; decide, ?_, k, ok_400 hk, h11⟩
    unfold rsP
    rw [if_neg (by omega), if_pos s0, h14, b3]
theorem FL_room (hT : TKB B sz T) (hk : ok B sz k) (hs : sg B sz k = (st, dp, cm, am, wp, nt, R, me, mt, bs, A, O, ck, L, w, V)) (hb : bg B sz k < sz) (hg : goes st dp cm (tk B sz k)) (hm : much st dp nt R (tk B sz k)) (h13 : gi N 35 13 = 2) (h14 : gi N 35 14 = gi T 39 k) (h11 : gi N 35 11 = k) : FL B sz k N := by
  rcases tokL hT hk with ⟨b1, b2, b3, -⟩ | ⟨b1, b2, b3⟩
  · have e : flt (sg B sz k) (tk B sz k) = 2 := by rw [hs]; unfold flt; simp only [if_neg (not_not_intro hg), if_pos hm]
    have rf : rsF B sz k = 2 := by unfold rsF; rw [if_pos b1, e]
    refine ⟨⟨hk, Or.inr ⟨b1, by rw [e]; decide⟩⟩, by rw [h13, rf], by rw [rf]; decide, ?_, k, ok_400 hk, h11⟩
    unfold rsP
    rw [if_pos b1, h14, b3]
  · omega
theorem FL_f {N' : mM} (h : FL B sz k N) (h13 : gi N' 35 13 = gi N 35 13) (h14 : gi N' 35 14 = gi N 35 14) (h11 : ∃ t : Nat, t ≤ 400 ∧ gi N' 35 11 = t) : FL B sz k N' := ⟨h.1, h13.trans h.2.1, h.2.2.1, h14.trans h.2.2.2.1, h11⟩
theorem ok_go (hk : ok B sz k) (hs : sg B sz k = (st, dp, cm, am, wp, nt, R, me, mt, bs, A, O, ck, L, w, V)) (hb : bg B sz k < sz) (hg : goes st dp cm (tk B sz k)) (hm : ¬ much st dp nt R (tk B sz k)) : ok B sz (k + 1) ∧ sg B sz (k + 1) = nxt (st, dp, cm, am, wp, nt, R, me, mt, bs, A, O, ck, L, w, V) (tk B sz k) (tvv B sz k) (bg B sz k) := by
  refine ⟨ok_s hk hb ?_, by rw [sg, hs]⟩
  rw [hs]
  unfold flt
  simp only [if_neg (not_not_intro hg), if_neg hm]
theorem sg_n (hs : sg B sz k = (st, dp, cm, am, wp, nt, R, me, mt, bs, A, O, ck, L, w, V)) : nt = k := by
  have := sg_nt (B := B) (sz := sz) k
  rw [hs] at this
  exact this
end FLS
/-- what reading an expression changes -/
def exS (c0 b a i : Nat) : Prop := (a = 35 ∧ ((11 ≤ i ∧ i ≤ 14) ∨ i = 29 ∨ i = 33)) ∨ ((a = 52 ∨ a = 53) ∧ c0 ≤ i ∧ i < b) ∨ a = 54
/-- the reference in an expression, at token k -/
def EX (N : mM) (lo b k dp : Nat) (w : List Int) (V : Env → List Int) : Prop := gi N 35 11 = k ∧ gi N 35 13 = 0 ∧ gi N 35 12 = dp ∧ CM N lo w V (b + k)
theorem CM_f {M N : mM} {lo b b' : Nat} {w : List Int} {V : Env → List Int} (h33 : gi N 35 33 = gi M 35 33) (h54 : ∀ i, gi N 54 i = gi M 54 i) (h29 : gi N 35 29 = gi M 35 29) (h52 : ∀ i, gi N 52 i = gi M 52 i) (h53 : ∀ i, gi N 53 i = gi M 53 i) (hb : b ≤ b') (h : CM M lo w V b) : CM N lo w V b' := by
  obtain ⟨a1, a2, cd, a3, a4, a5, a6, a7⟩ := h
  have e : ∀ j, gi N 52 (lo + j) = gi M 52 (lo + j) ∧ gi N 53 (lo + j) = gi M 53 (lo + j) := fun j => ⟨h52 _, h53 _⟩
  exact ⟨h33.trans a1, stk_eq _ (fun j _ => h54 j) a2, cd, h29.trans a3, a4, by omega, gM_eq (fun j _ => e j) a6, fun e' => by rw [rM_eq _ (fun j _ => e j) e']; exact a7 e'⟩
theorem CM_push {N : mM} {lo b : Nat} {w : List Int} {V : Env → List Int} {x : Int} (hx : 17 ≤ x ∧ x ≤ 20) (h : CM N lo w V b) : CM (si (si N 54 w.length (km x)) 35 33 (w.length + 1 : Nat)) lo (x :: w) V (b + 1) := by
  obtain ⟨a1, a2, cd, a3, a4, a5, a6, a7⟩ := h
  have e : ∀ j, gi (si (si N 54 w.length (km x)) 35 33 (w.length + 1 : Nat)) 52 (lo + j) = gi N 52 (lo + j) ∧ gi (si (si N 54 w.length (km x)) 35 33 (w.length + 1 : Nat)) 53 (lo + j) = gi N 53 (lo + j) := fun j => by simp only [gi_na, ne_eq, Nat.reduceEqDiff, not_false_eq_true, and_self]
  refine ⟨gi_same _ _ _ _, ⟨?_, ?_⟩, cd, ?_, a4, by rw [List.length_cons]; omega, gM_eq (fun j _ => e j) a6, fun e' => by rw [rM_eq _ (fun j _ => e j) e']; exact a7 e'⟩
  · rw [List.length_map, gi_na (by decide), gi_same]
  · refine stk_eq _ (fun j hj => ?_) a2
    have hj' : j < (w.map km).length := hj
    rw [List.length_map] at hj'
    rw [gi_na (by decide), gi_ni (by omega)]
  · rw [gi_ni (by decide), gi_na (by decide)]; exact a3
theorem CM_pop {N : mM} {lo b : Nat} {w : List Int} {V : Env → List Int} {x : Int} (h : CM N lo (x :: w) V b) : CM (si N 35 33 (w.length : Nat)) lo w V b := by
  obtain ⟨a1, a2, cd, a3, a4, a5, a6, a7⟩ := h
  rw [List.length_cons] at a5
  have e : ∀ j, gi (si N 35 33 (w.length : Nat)) 52 (lo + j) = gi N 52 (lo + j) ∧ gi (si N 35 33 (w.length : Nat)) 53 (lo + j) = gi N 53 (lo + j) := fun j => by simp only [gi_na, ne_eq, Nat.reduceEqDiff, not_false_eq_true, and_self]
  refine ⟨gi_same _ _ _ _, stk_eq _ (fun j _ => by rw [gi_na (by decide)]) a2.2, cd, by rw [gi_ni (by decide)]; exact a3, a4, by omega, gM_eq (fun j _ => e j) a6, fun e' => by rw [rM_eq _ (fun j _ => e j) e']; exact a7 e'⟩
