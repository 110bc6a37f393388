/-! ===== the wishes of both ===== -/
def b9 (x : Int) : Prop := 0 ≤ x ∧ x ≤ 9999
theorem nxt_am {s : PS} {k v : Int} {b : Nat} (h : b9 s.2.2.2.1) (hA : ∀ r, b9 (sgA s r)) (hf : flt s k = 0) (hv : k = 1 → b9 v) : b9 (nxt s k v b).2.2.2.1 ∧ ∀ r, b9 (sgA (nxt s k v b) r) := by
  have z9 : b9 0 := ⟨by decide, by decide⟩
  obtain ⟨st, dp, cm, am, wp, nt, R, me, mt, bs, A, O, ck, L, w, V⟩ := s
  have h' : b9 am := h
  have hA' : ∀ r, b9 (mt r) := hA
  have g : goes st dp cm k := by
    unfold flt at hf
    by_cases q : goes st dp cm k
    · exact q
    · simp only [if_pos q] at hf
      exact absurd hf (by decide)
  unfold nxt sgA
  simp only
  by_cases z0 : st = 0
  · rw [if_pos z0]; exact ⟨z9, hA'⟩
  rw [if_neg z0]
  by_cases z1 : st = 1
  · rw [if_pos z1]
    refine ⟨hv ?_, hA'⟩
    rcases g with g | g | g | g | g | g | g
    · exact absurd g.1 z0
    · exact g.2
    · exact absurd (g.1.symm.trans z1) (by decide)
    · exact absurd (g.1.symm.trans z1) (by decide)
    · exact absurd (g.1.symm.trans z1) (by decide)
    · exact absurd (g.1.symm.trans z1) (by decide)
    · exact absurd (g.1.symm.trans z1) (by decide)
  rw [if_neg z1]
  by_cases z2 : st = 2
  · rw [if_pos z2]; exact ⟨h', hA'⟩
  rw [if_neg z2]
  by_cases z3 : st = 3 ∨ st = 4
  · rw [if_pos z3]
    by_cases y : k = 20
    · rw [if_pos y]; exact ⟨h', hA'⟩
    · rw [if_neg y]; exact ⟨h', hA'⟩
  rw [if_neg z3]
  by_cases z4 : k = 17 ∨ k = 18
  · rw [if_pos z4]; exact ⟨h', hA'⟩
  rw [if_neg z4]
  by_cases z5 : k = 19
  · rw [if_pos z5]; exact ⟨h', hA'⟩
  rw [if_neg z5]
  by_cases z6 : k = 21
  · rw [if_pos z6]; exact ⟨h', hA'⟩
  rw [if_neg z6]
  by_cases z7 : 13 ≤ k ∧ k ≤ 16
  · rw [if_pos z7]; exact ⟨h', hA'⟩
  rw [if_neg z7]
  by_cases z8 : k = 12
  · rw [if_pos z8]; exact ⟨h', hA'⟩
  rw [if_neg z8]
  by_cases z9 : k = 11
  · rw [if_pos z9]; exact ⟨h', hA'⟩
  rw [if_neg z9]
  refine ⟨h', fun r => ?_⟩
  simp only
  split
  · exact h'
  · exact hA' r
theorem sg_am {B : Nat → Int} {sz : Nat} : ∀ k, ok B sz k → b9 (sg B sz k).2.2.2.1 ∧ ∀ r, b9 (sgA (sg B sz k) r) := by
  have z9 : b9 0 := ⟨by decide, by decide⟩
  intro k
  induction k with
  | zero => intro _; exact ⟨z9, fun r => z9⟩
  | succ k ih =>
    intro h
    obtain ⟨a, b⟩ := ih (fun j hj => h j (by omega))
    have hk := h k (Nat.lt_succ_self k)
    rw [sg]
    exact nxt_am a b hk.2 (fun z => tk_1 z)
theorem sg_R {B : Nat → Int} {sz k : Nat} (h : ok B sz k) : sgR (sg B sz k) ≤ 20 := by
  have p := sg_PI k h
  generalize sg B sz k = s at *
  obtain ⟨st, dp, cm, am, wp, nt, R, me, mt, bs, A, O, ck, L, w, V⟩ := s
  exact p.2.2.2.1
/-- the wishes at hand: the class's, the reference's -/
def WI (M : mM) : Prop := ∃ u u' sd R c : Nat, ∃ (me : Nat → Env → Int) (mt : Nat → Int), gr M 0 5 = some u ∧ gr M 0 6 = some u' ∧ ((u = 21 ∧ u' = 26) ∨ (u = 26 ∧ u' = 21)) ∧ sd ≤ 1 ∧ gi M 35 18 = sd ∧ gi M u 0 = R ∧ R ≤ 20 ∧ RU u M R me mt ∧ gi M 43 sd = R ∧ c ≤ 400 ∧ MRU M sd R me mt c ∧ fr M sd R ≤ 400 ∧ ∀ r, r < R → b9 (mt r)
/-- the rules at hand stay where their cells stay -/
theorem WI_f {M N : mM} (hr : ∀ i, i = 5 ∨ i = 6 → gr N 0 i = gr M 0 i) (h18 : gi N 35 18 = gi M 35 18) (hc : ∀ a i, (21 ≤ a ∧ a ≤ 24) ∨ (26 ≤ a ∧ a ≤ 29) → gi N a i = gi M a i) (hm : ∀ a i, (43 ≤ a ∧ a ≤ 53) → gi N a i = gi M a i) (h : WI M) : WI N := by
  obtain ⟨u, u', sd, R, c, me, mt, h5, h6, hu, hsd, g18, g0, hR, hRU, g43, hc4, hM, hf, hmt⟩ := h
  have hb : ∀ a i, u ≤ a → a ≤ u + 3 → gi N a i = gi M a i := fun a i h1 h2 => hc a i (by omega)
  refine ⟨u, u', sd, R, c, me, mt, by rw [hr 5 (Or.inl rfl)]; exact h5, by rw [hr 6 (Or.inr rfl)]; exact h6, hu, hsd, by rw [h18]; exact g18, by rw [hb u 0 (Nat.le_refl u) (by omega)]; exact g0, hR, RU_f (fun i => hb _ i (by omega) (by omega)) (fun i => hb _ i (by omega) (by omega)) (fun i _ => hb _ i (by omega) (by omega)) hRU, by rw [hm 43 _ (by decide)]; exact g43, hc4, MRU_f (fun r _ => hm 45 _ (by decide)) (fun r _ => hm 44 _ (by decide)) (fun a i h1 h2 _ => hm a _ (by omega)) (fun j _ => ⟨hm 52 j (by decide), hm 53 j (by decide)⟩) (Nat.le_refl _) hM, ?_, hmt⟩
  unfold fr at hf ⊢
  rw [hm 45 _ (by decide)]
  exact hf
