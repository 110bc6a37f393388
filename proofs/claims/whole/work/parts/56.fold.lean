/-! ===== rules of the reference, as values ===== -/
def bi (b : Bool) : Int := if b = true then 1 else 0
def hfo (N : mM) (sd lo : Nat) : Nat → Env → Bool × Bool
  | 0, _ => (false, false)
  | n + 1, e => if gi N 51 (400 * sd + (lo + n)) ≠ 0 then ((hfo N sd lo n e).1 || (hfo N sd lo n e).2, decide (xl N sd (lo + n) e ≠ 0)) else ((hfo N sd lo n e).1, (hfo N sd lo n e).2 && decide (xl N sd (lo + n) e ≠ 0))
theorem hfo_f {M N : mM} {sd lo : Nat} : ∀ (n : Nat), (∀ i, lo ≤ i → i < lo + n → gi N 51 (400 * sd + i) = gi M 51 (400 * sd + i) ∧ ∀ e, xl N sd i e = xl M sd i e) → ∀ e, hfo N sd lo n e = hfo M sd lo n e := by
  intro n
  induction n with
  | zero => intro _ e; rfl
  | succ n ih =>
    intro h e
    obtain ⟨a, b⟩ := h (lo + n) (by omega) (by omega)
    rw [hfo, hfo, ih (fun i h1 h2 => h i h1 (by omega)) e, a, b e]
theorem and2_bi (p q : Bool) : and2 (bi p) (bi q) = bi (p && q) := by cases p <;> cases q <;> decide
theorem or2_bi (p q : Bool) : or2 (bi p) (bi q) = bi (p || q) := by cases p <;> cases q <;> decide
theorem bi_x {x : Int} (h : x = 0 ∨ x = 1) : x = bi (decide (x ≠ 0)) := by
  rcases h with rfl | rfl <;> decide
def FO (N : mM) (sd lo n bs : Nat) (A O : Env → Int) : Prop := (bs = 0 → n = 0) ∧ ∀ e, EV e → (bs = 1 → O e = bi ((hfo N sd lo n e).1 || (hfo N sd lo n e).2)) ∧ (bs = 2 → A e = bi (hfo N sd lo n e).2 ∧ (hfo N sd lo n e).1 = false) ∧ (bs = 3 → A e = bi (hfo N sd lo n e).2 ∧ O e = bi (hfo N sd lo n e).1)
theorem FO_f {M N : mM} {sd lo n bs : Nat} {A O : Env → Int} (h : ∀ i, lo ≤ i → i < lo + n → gi N 51 (400 * sd + i) = gi M 51 (400 * sd + i) ∧ ∀ e, xl N sd i e = xl M sd i e) (k : FO M sd lo n bs A O) : FO N sd lo n bs A O := by
  refine ⟨k.1, fun e he => ?_⟩
  rw [hfo_f n h e]
  exact k.2 e he
section FOS
variable {N : mM} {sd lo n bs : Nat} {A O x : Env → Int} {or : Int}
theorem FO_key (hF : FO N sd lo n bs A O) (hb : bs ≤ 3) (ho : or ≠ 0 ↔ bs = 0 ∨ bs = 1) (h51 : gi N 51 (400 * sd + (lo + n)) = or) (hx : ∀ e, xl N sd (lo + n) e = x e) (h01 : ∀ e, EV e → x e = 0 ∨ x e = 1) (e : Env) (he : EV e) :
    gan bs A x e = bi (hfo N sd lo (n + 1) e).2 ∧ (bs = 0 → (hfo N sd lo (n + 1) e).1 = false) ∧ (bs = 2 → (hfo N sd lo (n + 1) e).1 = false) ∧ (bs = 1 ∨ bs = 3 → O e = bi (hfo N sd lo (n + 1) e).1) := by
  obtain ⟨f0, f⟩ := hF
  obtain ⟨f1, f2, f3⟩ := f e he
  have xb := bi_x (h01 e he)
  rw [hfo, h51, hx e]
  unfold gan
  rcases (show bs = 0 ∨ bs = 1 ∨ bs = 2 ∨ bs = 3 by omega) with rfl | rfl | rfl | rfl
  · rw [if_neg (by decide), if_pos (ho.mpr (Or.inl rfl))]
    have n0 := f0 rfl
    subst n0
    refine ⟨xb, fun _ => rfl, fun z => (by cases z), fun z => by omega⟩
  · rw [if_neg (by decide), if_pos (ho.mpr (Or.inr rfl))]
    exact ⟨xb, fun z => (by cases z), fun z => (by cases z), fun _ => f1 rfl⟩
  · rw [if_pos (by decide), if_neg (fun w => by have := ho.mp w; omega)]
    obtain ⟨a, b⟩ := f2 rfl
    refine ⟨?_, fun z => (by cases z), fun _ => b, fun z => by omega⟩
    rw [a]
    conv => lhs; rw [xb]
    exact and2_bi _ _
  · rw [if_pos (by decide), if_neg (fun w => by have := ho.mp w; omega)]
    obtain ⟨a, b⟩ := f3 rfl
    refine ⟨?_, fun z => (by cases z), fun z => (by cases z), fun _ => b⟩
    rw [a]
    conv => lhs; rw [xb]
    exact and2_bi _ _
theorem FO_and (hF : FO N sd lo n bs A O) (hb : bs ≤ 3) (ho : or ≠ 0 ↔ bs = 0 ∨ bs = 1) (h51 : gi N 51 (400 * sd + (lo + n)) = or) (hx : ∀ e, xl N sd (lo + n) e = x e) (h01 : ∀ e, EV e → x e = 0 ∨ x e = 1) : FO N sd lo (n + 1) (if bs = 1 ∨ bs = 3 then 3 else 2) (gan bs A x) O := by
  refine ⟨fun z => by split at z <;> omega, fun e he => ?_⟩
  obtain ⟨a, b, c, d⟩ := FO_key hF hb ho h51 hx h01 e he
  by_cases y : bs = 1 ∨ bs = 3
  · rw [if_pos y]
    exact ⟨fun z => by omega, fun z => by omega, fun _ => ⟨a, d y⟩⟩
  · rw [if_neg y]
    refine ⟨fun z => by omega, fun _ => ⟨a, ?_⟩, fun z => by omega⟩
    rcases (show bs = 0 ∨ bs = 2 by omega) with z | z
    · exact b z
    · exact c z
theorem FO_stop (hF : FO N sd lo n bs A O) (hb : bs ≤ 3) (ho : or ≠ 0 ↔ bs = 0 ∨ bs = 1) (h51 : gi N 51 (400 * sd + (lo + n)) = or) (hx : ∀ e, xl N sd (lo + n) e = x e) (h01 : ∀ e, EV e → x e = 0 ∨ x e = 1) (e : Env) (he : EV e) : gor bs O (gan bs A x) e = bi ((hfo N sd lo (n + 1) e).1 || (hfo N sd lo (n + 1) e).2) := by
  obtain ⟨a, b, c, d⟩ := FO_key hF hb ho h51 hx h01 e he
  unfold gor
  by_cases y : bs = 1 ∨ bs = 3
  · rw [if_pos y, d y, a, or2_bi]
  · rw [if_neg y, a]
    rcases (show bs = 0 ∨ bs = 2 by omega) with z | z
    · rw [b z, Bool.false_or]
    · rw [c z, Bool.false_or]
theorem FO_or (hF : FO N sd lo n bs A O) (hb : bs ≤ 3) (ho : or ≠ 0 ↔ bs = 0 ∨ bs = 1) (h51 : gi N 51 (400 * sd + (lo + n)) = or) (hx : ∀ e, xl N sd (lo + n) e = x e) (h01 : ∀ e, EV e → x e = 0 ∨ x e = 1) (A' : Env → Int) : FO N sd lo (n + 1) 1 A' (gor bs O (gan bs A x)) :=
  ⟨fun z => by omega, fun e he => ⟨fun _ => FO_stop hF hb ho h51 hx h01 e he, fun z => by omega, fun z => by omega⟩⟩
end FOS
def fr (N : mM) (sd r : Nat) : Nat := (gi N 45 (21 * sd + r)).toNat
/-- the rules of side sd, their words below c -/
def MRU (N : mM) (sd R : Nat) (me : Nat → Env → Int) (mt : Nat → Int) (c : Nat) : Prop := (∀ r, r ≤ R → 0 ≤ gi N 45 (21 * sd + r)) ∧ ∀ r, r < R → gi N 44 (20 * sd + r) = mt r ∧ fr N sd r ≤ fr N sd (r + 1) ∧ (∀ i, fr N sd r ≤ i → i < fr N sd (r + 1) → VL N sd c i) ∧ ∀ e, EV e → me r e = bi ((hfo N sd (fr N sd r) (fr N sd (r + 1) - fr N sd r) e).1 || (hfo N sd (fr N sd r) (fr N sd (r + 1) - fr N sd r) e).2)
theorem fr_mono {N : mM} {sd R c : Nat} {me : Nat → Env → Int} {mt : Nat → Int} (h : MRU N sd R me mt c) : ∀ d r, r + d = R → fr N sd r ≤ fr N sd R := by
  intro d
  induction d with
  | zero => intro r hr; rw [← hr]; exact Nat.le_refl _
  | succ d ih =>
    intro r hr
    have := ih (r + 1) (by omega)
    have := (h.2 r (by omega)).2.1
    omega
theorem MRU_f {M N : mM} {sd R c c' : Nat} {me : Nat → Env → Int} {mt : Nat → Int} (h45 : ∀ r, r ≤ R → gi N 45 (21 * sd + r) = gi M 45 (21 * sd + r)) (h44 : ∀ r, r < R → gi N 44 (20 * sd + r) = gi M 44 (20 * sd + r)) (hl : ∀ a i, 47 ≤ a → a ≤ 51 → i < fr M sd R → gi N a (400 * sd + i) = gi M a (400 * sd + i)) (hc : ∀ j, j < 500 * sd + c → gi N 52 j = gi M 52 j ∧ gi N 53 j = gi M 53 j) (hcc : c ≤ c') (h : MRU M sd R me mt c) : MRU N sd R me mt c' := by
  have ef : ∀ r, r ≤ R → fr N sd r = fr M sd r := fun r hr => by unfold fr; rw [h45 r hr]
  refine ⟨fun r hr => by rw [h45 r hr]; exact h.1 r hr, fun r hr => ?_⟩
  obtain ⟨a1, a2, a3, a4⟩ := h.2 r hr
  have m := fr_mono h (R - (r + 1)) (r + 1) (by omega)
  have key : ∀ i, fr M sd r ≤ i → i < fr M sd (r + 1) → VL N sd c' i ∧ ∀ e, xl N sd i e = xl M sd i e := fun i h1 h2 => VL_f (fun a ha hb => hl a i ha hb (by omega)) hc hcc (a3 i h1 h2)
  rw [ef r (by omega), ef (r + 1) (by omega), h44 r hr]
  refine ⟨a1, a2, fun i h1 h2 => (key i h1 h2).1, fun e he => ?_⟩
  rw [hfo_f (fr M sd (r + 1) - fr M sd r) (fun i h1 h2 => ⟨hl 51 i (by decide) (by decide) (by omega), (key i h1 (by omega)).2⟩) e]
  exact a4 e he
/-- the first wrong amount -/
def WPR (N : mM) (wp : Int) : Prop := (wp = -1 ∧ gi N 35 15 = 0) ∨ (wp ≠ -1 ∧ gi N 35 15 = 5 ∧ gi N 35 16 = wp)
def RT (sd k : Nat) (N : mM) : PS → Prop
  | (st, dp, cm, am, wp, nt, R, me, mt, bs, A, O, ck, L, w, V) => gi N 35 11 = k ∧ gi N 35 13 = 0 ∧ gi N 35 12 = 0 ∧ gi N 35 19 = sd ∧ gi N 43 sd = R ∧ WPR N wp ∧ ∃ c n : Nat, gi N 35 29 = (500 * sd + c : Nat) ∧ c ≤ k ∧ gi N 46 sd = n ∧ n ≤ k ∧ fr N sd R = n ∧ MRU N sd R me mt c
theorem bg_lt {B : Nat → Int} {sz k : Nat} (h : bg B sz k < sz) : bg B sz k < bg B sz (k + 1) := by
  rw [bg_s h]
  have := skp_le B (sz - tkE B sz (bg B sz k)) (tkE B sz (bg B sz k))
  have := tkE_lt (B := B) h
  omega
theorem nxt_wp {s : PS} {k v : Int} {b : Nat} : sgW (nxt s k v b) = sgW s ∨ sgW (nxt s k v b) = b := by
  obtain ⟨st, dp, cm, am, wp, nt, R, me, mt, bs, A, O, ck, L, w, V⟩ := s
  unfold nxt sgW
  simp only
  by_cases z0 : st = 0
  · rw [if_pos z0]; exact Or.inl rfl
  rw [if_neg z0]
  by_cases z1 : st = 1
  · rw [if_pos z1]
    simp only
    split
    · exact Or.inr rfl
    · exact Or.inl rfl
  rw [if_neg z1]
  by_cases z2 : st = 2
  · rw [if_pos z2]; exact Or.inl rfl
  rw [if_neg z2]
  by_cases z3 : st = 3 ∨ st = 4
  · rw [if_pos z3]
    by_cases y : k = 20
    · rw [if_pos y]; exact Or.inl rfl
    · rw [if_neg y]; exact Or.inl rfl
  rw [if_neg z3]
  by_cases z4 : k = 17 ∨ k = 18
  · rw [if_pos z4]; exact Or.inl rfl
  rw [if_neg z4]
  by_cases z5 : k = 19
  · rw [if_pos z5]; exact Or.inl rfl
  rw [if_neg z5]
  by_cases z6 : k = 21
  · rw [if_pos z6]; exact Or.inl rfl
  rw [if_neg z6]
  by_cases z7 : 13 ≤ k ∧ k ≤ 16
  · rw [if_pos z7]; exact Or.inl rfl
  rw [if_neg z7]
  by_cases z8 : k = 12
  · rw [if_pos z8]; exact Or.inl rfl
  rw [if_neg z8]
  by_cases z9 : k = 11
  · rw [if_pos z9]; exact Or.inl rfl
  rw [if_neg z9]
  exact Or.inl rfl
theorem sg_wp {B : Nat → Int} {sz : Nat} : ∀ k, ok B sz k → sgW (sg B sz k) ≤ bg B sz k ∧ -1 ≤ sgW (sg B sz k) := by
  intro k
  induction k with
  | zero => intro _; exact ⟨(by show (-1 : Int) ≤ _; omega), Int.le_refl _⟩
  | succ k ih =>
    intro h
    obtain ⟨a, b⟩ := ih (fun j hj => h j (by omega))
    have := bg_lt (h k (Nat.lt_succ_self k)).1
    rw [sg]
    rcases nxt_wp (s := sg B sz k) (k := tk B sz k) (v := tvv B sz k) (b := bg B sz k) with q | q <;> rw [q] <;> omega
