/-! ===== pairs: plain calls ===== -/
def toldH (M : mM) (a i : Nat) : Prop := a = 1 ∨ (a = 5 ∧ i ≤ 2) ∨ isRow a ∨ (a = 35 ∧ (i = 34 ∨ i = 35 ∨ i = 37 ∨ i = 51 ∨ i = 55)) ∨ (55 ≤ a ∧ a ≤ 63) ∨ a = 65 ∨ (67 ≤ a ∧ a ≤ 70) ∨ kd M a = 2 ∨ kd M a = 7 ∨ kd M a = 6
/-- as TI_cl, where the plain fields are looked after -/
theorem TI_c2 {S : Nat → Nat → Prop} {M N : mM} (hY : YF S M N) (hI : I1 N) (hS : ∀ a i, S a i → ¬ toldH M a i) (hT : TI M) : TI N := by
  obtain ⟨h0, h1, h3, hf, ⟨K, p, hK, hp⟩, hc, hm⟩ := hT
  have hN := YF_SH hY h0
  have i1 := h1
  obtain ⟨-, -, ⟨b7, b8, b9⟩, -⟩ := i1
  have g : ∀ a i, toldH M a i → gi N a i = gi M a i := fun a i w => hY.2 a i (fun v => hS a i v w)
  have hn := YF_n hY
  have e1 : ∀ i, gi N 1 i = gi M 1 i := fun i => g 1 i (Or.inl rfl)
  have e5 : ∀ i, i ≤ 2 → gi N 5 i = gi M 5 i := fun i h => g 5 i (by unfold toldH; omega)
  have tb : ∀ a i, 55 ≤ a → a ≤ 63 → gi N a i = gi M a i := fun a i h1 h2 => g a i (by unfold toldH; omega)
  have f34 : gi N 35 34 = gi M 35 34 := g 35 34 (by unfold toldH; omega)
  have f35 : gi N 35 35 = gi M 35 35 := g 35 35 (by unfold toldH; omega)
  have f37 : gi N 35 37 = gi M 35 37 := g 35 37 (by unfold toldH; omega)
  have f51 : gi N 35 51 = gi M 35 51 := g 35 51 (by unfold toldH; omega)
  have f55 : gi N 35 55 = gi M 35 55 := g 35 55 (by unfold toldH; omega)
  have fen : ∀ n, fe n M N := fun n => ⟨fun a k h1 h2 _ => tb a k (by omega) h2, fun s _ => tb 55 s (by decide) (by decide)⟩
  refine ⟨hN, hI, ?_, ?_, ⟨K, p, by rw [e1]; exact hK, ?_⟩, ⟨SO_f hY.1 hc.1, ?_⟩, ?_⟩
  · unfold I3 at h3 ⊢
    simp only [e1, fun i => tb 55 i (by decide) (by decide), fun i => tb 56 i (by decide) (by decide), fun i => tb 57 i (by decide) (by decide), fun i => tb 58 i (by decide) (by decide), fun i => tb 59 i (by decide) (by decide), fun i => tb 60 i (by decide) (by decide), fun i => tb 61 i (by decide) (by decide), fun i => tb 62 i (by decide) (by decide), fun i => tb 63 i (by decide) (by decide), YF_r hY, YF_k hY, hn]
    refine ⟨fun j hj => ?_, fun j hj => ?_⟩
    · obtain ⟨a, q8, q9, q10, q11, q12⟩ := h3.1 j hj
      have ea := fun i => g a i (by unfold toldH; omega)
      refine ⟨a, q8, q9, q10, q11, ?_⟩
      simp only [ea]
      exact q12
    · obtain ⟨a, q8, q9, q10, q11, q12⟩ := h3.2 j hj
      have ea := fun i => g a i (by unfold toldH; omega)
      refine ⟨a, q8, q9, q10, q11, ?_⟩
      simp only [ea]
      exact q12
  · unfold FM at hf ⊢
    simp only [f34, f35, f37, fun i => tb 56 i (by decide) (by decide), fun i => tb 57 i (by decide) (by decide), fun i => tb 58 i (by decide) (by decide), fun i => tb 59 i (by decide) (by decide), fun i => tb 60 i (by decide) (by decide), fun i => tb 61 i (by decide) (by decide), fun i => tb 62 i (by decide) (by decide), fun i => tb 63 i (by decide) (by decide)]
    exact hf
  · unfold RKp bts at hp ⊢
    simp only [fun i => tb 55 i (by decide) (by decide), YF_r hY]
    exact hp
  · rcases hc.2 with w | ⟨n, W, w1, w2, w3, w4, w5⟩
    · exact Or.inl (by rw [e5 1 (by decide)]; exact w)
    · have c6 := cnt_600 hf (n := n) (by omega) W
      refine Or.inr ⟨n, W, by rw [e5 1 (by decide)]; exact w1, by rw [e5 2 (by decide)]; exact w2, by rw [e1]; exact w3, w4, ?_⟩
      exact DAYC_fe hf (by omega) (fen n) w4 w5 hc.1 h0 (by omega) (e5 0 (by decide)) (fun a t q1 q2 => g a t (by unfold toldH isRow; omega)) (fun j => YF_r hY 14 j) (fun a i ha hka => ⟨g a i (by unfold toldH; omega), by rw [YF_k hY]; exact hka⟩)
  · rcases hm with w | ⟨n, W, w1, w2, w3, w4, w5, w6⟩
    · exact Or.inl (by rw [f51]; exact w)
    · have hD := dyD hf w3 (fen n)
      refine Or.inr ⟨n, W, by rw [f51]; exact w1, by rw [f34]; exact w2, by rw [f37]; exact w3, ?_, ?_, ?_⟩
      · intro c t hc ht; rw [hD, g 65 _ (by unfold toldH; omega)]; exact w4 c t hc ht
      · rw [hD, f55]; exact w5
      · rw [hD]; exact SHL_eq (fun a i h1 h2 => g a i (by unfold toldH; omega)) w6
theorem GROW_YF {S : Nat → Nat → Prop} {M R : mM} (h : YF S M R) : GROW M R := by
  have h1 := YF_n h
  have h2 : zs R = zs M := DF_z (YF_DFk h)
  unfold GROW
  omega
theorem no267 {M : mM} (h : SH M) {a i : Nat} (ha : a < 88) (h1 : a ≠ 1) (h2 : ¬ (a = 5 ∧ i ≤ 2)) (h3 : ¬ isRow a) (h4 : ¬ (a = 35 ∧ (i = 34 ∨ i = 35 ∨ i = 37 ∨ i = 51 ∨ i = 55))) (h5 : ¬ ((55 ≤ a ∧ a ≤ 63) ∨ a = 65 ∨ (67 ≤ a ∧ a ≤ 70))) : ¬ toldH M a i := by
  have := kd_267 h ha
  unfold isRow at h3
  unfold toldH isRow
  omega
theorem p_place : PAIR 105 140 [] := fun M hI => by
  have h := hI.1.1
  have e : gi M 35 17 = gi M 18 1 := hI.1.2.1.2.2.2.2.2.2.2.2
  rw [x_place (d := 18) h]
  refine ⟨_, rfl, ?_⟩
  rw [y_place (d := 18) h]
  exact ⟨by rw [e], hI, GROW_refl⟩
theorem p_recorder (a b c e : Int) : PAIR 110 153 [vi a, vi b, vi c, vi e] := fun M hI => by
  have h := hI.1.1
  rw [x_recorder (d := 18) h]
  by_cases q : (1 ≤ a ∧ a ≤ 3) ∧ (0 ≤ b ∧ b ≤ 6) ∧ (0 ≤ c ∧ c ≤ 6) ∧ 0 ≤ e ∧ e ≤ 2000
  · rw [if_pos q]
    refine ⟨_, rfl, ?_⟩
    rw [y_recorder (d := 18) (M := si (si (si (si M 20 0 a) 20 1 b) 20 2 c) 20 3 e) h, if_pos q]
    have y : YF (fun x i => (x = 20 ∧ i < 4) ∨ (x = 35 ∧ 46 ≤ i ∧ i ≤ 49)) M (si (si (si (si (si (si (si (si M 20 0 a) 20 1 b) 20 2 c) 20 3 e) 35 46 a) 35 47 b) 35 48 c) 35 49 e) := YF_si (by omega) (YF_si (by omega) (YF_si (by omega) (YF_si (by omega) (YF_si (by omega) (YF_si (by omega) (YF_si (by omega) (YF_si (by omega) YF_refl)))))))
    refine ⟨rfl, ⟨TI_c2 y ?_ (fun x i w => no267 h (by omega) (by omega) (by omega) (by unfold isRow; omega) (by omega) (by omega)) hI.1, REST_YF y (fun x i w => ⟨by omega, by unfold restS; omega⟩) hI.2⟩, GROW_YF y⟩
    obtain ⟨i1, i2, i3, -, -, -, -, i8, i9⟩ := hI.1.2.1
    have o : ∀ x i, ¬ ((x = 20 ∧ i < 4) ∨ (x = 35 ∧ 46 ≤ i ∧ i ≤ 49)) → gi (si (si (si (si (si (si (si (si M 20 0 a) 20 1 b) 20 2 c) 20 3 e) 35 46 a) 35 47 b) 35 48 c) 35 49 e) x i = gi M x i := y.2
    unfold I1
    rw [o 1 0 (by omega), o 1 1 (by omega), o 1 2 (by omega), o 35 34 (by omega), o 35 35 (by omega), o 35 37 (by omega), o 20 4 (by omega), o 35 50 (by omega), o 35 17 (by omega), o 18 1 (by omega)]
    refine ⟨i1, i2, i3, ?_, ?_, ?_, ?_, i8, i9⟩
    · rw [gi_ni (by decide), gi_ni (by decide), gi_ni (by decide), gi_same, gi_na (by decide), gi_na (by decide), gi_na (by decide), gi_na (by decide), gi_ni (by decide), gi_ni (by decide), gi_ni (by decide), gi_same]
      exact ⟨q.1.1, q.1.2, rfl⟩
    · rw [gi_ni (by decide), gi_ni (by decide), gi_same, gi_na (by decide), gi_na (by decide), gi_na (by decide), gi_na (by decide), gi_ni (by decide), gi_ni (by decide), gi_same]
      exact ⟨q.2.1.1, q.2.1.2, rfl⟩
    · rw [gi_ni (by decide), gi_same, gi_na (by decide), gi_na (by decide), gi_na (by decide), gi_na (by decide), gi_ni (by decide), gi_same]
      exact ⟨q.2.2.1.1, q.2.2.1.2, rfl⟩
    · rw [gi_same, gi_na (by decide), gi_na (by decide), gi_na (by decide), gi_na (by decide), gi_same]
      exact ⟨q.2.2.2.1, q.2.2.2.2, rfl⟩
  · rw [if_neg q]
    refine ⟨_, rfl, ?_⟩
    rw [y_recorder (d := 18) h, if_neg q]
    exact ⟨rfl, hI, GROW_refl⟩
theorem p_clock (t : Int) : PAIR 111 154 [vi t] := fun M hI => by
  have h := hI.1.1
  obtain ⟨i1, i2, i3, i4, i5, i6, i7, i8, i9⟩ := hI.1.2.1
  rw [x_clock (d := 18) h]
  by_cases q : gi M 20 4 ≤ t ∧ t < 288
  · rw [if_pos q]
    refine ⟨_, rfl, ?_⟩
    have e50 : gi (si M 20 4 t) 35 50 = gi M 20 4 := by rw [gi_na (by decide)]; exact i8.2.2
    rw [y_clock (d := 17) (M := si M 20 4 t) h (by rw [e50]; omega), if_pos (by rw [e50]; exact q)]
    have y : YF (fun x i => (x = 20 ∧ i = 4) ∨ (x = 35 ∧ i = 50)) M (si (si M 20 4 t) 35 50 t) := YF_si (by omega) (YF_si (by omega) YF_refl)
    refine ⟨rfl, ⟨TI_c2 y ?_ (fun x i w => no267 h (by omega) (by omega) (by omega) (by unfold isRow; omega) (by omega) (by omega)) hI.1, REST_YF y (fun x i w => ⟨by omega, by unfold restS; omega⟩) hI.2⟩, GROW_YF y⟩
    have o : ∀ x i, ¬ ((x = 20 ∧ i = 4) ∨ (x = 35 ∧ i = 50)) → gi (si (si M 20 4 t) 35 50 t) x i = gi M x i := y.2
    unfold I1
    rw [o 1 0 (by omega), o 1 1 (by omega), o 1 2 (by omega), o 35 34 (by omega), o 35 35 (by omega), o 35 37 (by omega), o 20 0 (by omega), o 20 1 (by omega), o 20 2 (by omega), o 20 3 (by omega), o 35 46 (by omega), o 35 47 (by omega), o 35 48 (by omega), o 35 49 (by omega), o 35 17 (by omega), o 18 1 (by omega)]
    refine ⟨i1, i2, i3, i4, i5, i6, i7, ?_, i9⟩
    rw [gi_same, gi_na (by decide), gi_same]
    exact ⟨by omega, by omega, rfl⟩
  · rw [if_neg q]
    refine ⟨_, rfl, ?_⟩
    rw [y_clock (d := 17) h (by omega), if_neg (by rw [i8.2.2]; exact q)]
    exact ⟨rfl, hI, GROW_refl⟩
/-- ints of the tapes change -/
theorem TI_tape {M N : mM} (y : YF (fun x i => (x = 16 ∧ i = 0) ∨ x = 17 ∨ (x = 35 ∧ i = 2) ∨ x = 36) M N) (hT : TI M) : TI N := TI_YF y (fun a i w => by
  have := kd_267 hT.1 (a := a) (by omega)
  refine ⟨by omega, fun v => ?_⟩
  unfold toldG isRow t35 at v
  omega) hT
theorem REST_tape {M N : mM} (y : YF (fun x i => (x = 16 ∧ i = 0) ∨ x = 17 ∨ (x = 35 ∧ i = 2) ∨ x = 36) M N) (h2 : I2 N) (hb : I2b N) (hR : REST M) : REST N := by
  obtain ⟨-, -, r3, r4, r5⟩ := hR
  have o : ∀ a i, ¬ ((a = 16 ∧ i = 0) ∨ a = 17 ∨ (a = 35 ∧ i = 2) ∨ a = 36) → gi N a i = gi M a i := y.2
  refine ⟨h2, hb, WI_f (fun i _ => YF_r y 0 i) (o 35 18 (by omega)) (fun a i w => o a i (by omega)) (fun a i w => o a i (by omega)) r3, fun k hk => by rw [o 42 k (by omega)]; exact r4 k hk, PLI_f (fun a _ => YF_k y a) (by rw [YF_n y]; exact Nat.le_refl _) (fun a i _ => YF_r y a i) (fun i _ => YF_r y 0 i) (fun a i w => o a i (by omega)) (fun a i w _ _ => o a i (by omega)) r5⟩
theorem p_back (n : Int) : PAIR 103 125 [vi n] := fun M hI => by
  have h := hI.1.1
  obtain ⟨⟨k1, k2, k3⟩, k4⟩ := hI.2.1
  have kb := hI.2.2.1
  rw [x_back (d := 18) h k1 k2]
  by_cases q : 0 ≤ n ∧ n ≤ gi M 16 0
  · rw [if_pos q]
    refine ⟨_, rfl, ?_⟩
    have e2 : gi (si M 16 0 (gi M 16 0 - n)) 35 2 = gi M 16 0 := by rw [gi_na (by decide)]; exact k3
    rw [y_back (d := 18) (M := si M 16 0 (gi M 16 0 - n)) h (by rw [e2]; exact k1) (by rw [e2]; exact k2), if_pos (by rw [e2]; exact q), e2]
    have y : YF (fun x i => (x = 16 ∧ i = 0) ∨ x = 17 ∨ (x = 35 ∧ i = 2) ∨ x = 36) M (si (si M 16 0 (gi M 16 0 - n)) 35 2 (gi M 16 0 - n)) := YF_si (by omega) (YF_si (by omega) YF_refl)
    have g16 : gi (si (si M 16 0 (gi M 16 0 - n)) 35 2 (gi M 16 0 - n)) 16 0 = gi M 16 0 - n := by rw [gi_na (by decide), gi_same]
    refine ⟨rfl, ⟨TI_tape y hI.1, REST_tape y ⟨⟨?_, ?_, ?_⟩, fun i hi => ?_⟩ (fun i hi => ?_) hI.2⟩, GROW_YF y⟩
    · rw [g16]; omega
    · rw [g16]; omega
    · rw [g16, gi_same]
    · rw [g16] at hi
      rw [gi_na (by decide), gi_na (by decide), gi_na (by decide), gi_na (by decide)]
      exact k4 i (by omega)
    · rw [g16] at hi
      rw [gi_na (by decide), gi_na (by decide)]
      exact kb i (by omega)
  · rw [if_neg q]
    refine ⟨_, rfl, ?_⟩
    rw [y_back (d := 18) h (by rw [k3]; exact k1) (by rw [k3]; exact k2), if_neg (by rw [k3]; exact q)]
    exact ⟨rfl, hI, GROW_refl⟩
theorem wb_r (z : Int) : -128 ≤ wb z ∧ wb z ≤ 127 := by
  unfold wb
  have h1 := (Int8.ofInt z).le_toInt
  have h2 := (Int8.ofInt z).toInt_lt
  omega
theorem by4_r (w : Int) (k : Nat) : -128 ≤ by4 w k ∧ by4 w k ≤ 127 := wb_r _
theorem ap4_r {M : mM} {o f t s : Nat} {w : Int} (ho : o ≠ t) (h : ∀ i, i < s → -128 ≤ gi M t i ∧ gi M t i ≤ 127) : ∀ i, i < s + 4 → -128 ≤ gi (ap4 M o f t s w) t i ∧ gi (ap4 M o f t s w) t i ≤ 127 := by
  intro i hi
  rw [ap4_in ho hi]
  split
  · exact h i (by assumption)
  · exact by4_r _ _
theorem ap20_r {M : mM} {o f t s : Nat} {a b c d e : Int} (ho : o ≠ t) (h : ∀ i, i < s → -128 ≤ gi M t i ∧ gi M t i ≤ 127) : ∀ i, i < s + 20 → -128 ≤ gi (ap20 M o f t s a b c d e) t i ∧ gi (ap20 M o f t s a b c d e) t i ≤ 127 :=
  ap4_r (s := s + 16) ho (ap4_r (s := s + 12) ho (ap4_r (s := s + 8) ho (ap4_r (s := s + 4) ho (ap4_r ho h))))
theorem p_feed' (a b c e g : Int) : PAIR 102 123 [vi a, vi b, vi c, vi e, vi g] := fun M hI => by
  have h := hI.1.1
  obtain ⟨⟨k1, k2, k3⟩, k4⟩ := hI.2.1
  have kb := hI.2.2.1
  obtain ⟨s, hs⟩ : ∃ s : Nat, gi M 16 0 = s := ⟨(gi M 16 0).toNat, by omega⟩
  rw [x_feed (d := 17) h hs]
  by_cases q : s ≤ 1980
  · rw [if_pos q]
    refine ⟨_, rfl, ?_⟩
    have e1 : gi (ap20 M 16 0 17 s a b c e g) 35 2 = s := by
      rw [ap20_out (Or.inl (by decide)) (by decide), k3, hs]
    rw [y_feed (d := 17) (M := ap20 M 16 0 17 s a b c e g) h e1 (by omega), if_pos q]
    have y : YF (fun x i => (x = 16 ∧ i = 0) ∨ x = 17 ∨ (x = 35 ∧ i = 2) ∨ x = 36) M (ap20 (ap20 M 16 0 17 s a b c e g) 35 2 36 s a b c e g) := ⟨rfl, fun x i w => by rw [ap20_out (by omega) (by omega), ap20_out (by omega) (by omega)]⟩
    have g16 : gi (ap20 (ap20 M 16 0 17 s a b c e g) 35 2 36 s a b c e g) 16 0 = (s + 20 : Nat) := by rw [ap20_out (Or.inl (by decide)) (by decide), ap20_n]
    refine ⟨rfl, ⟨TI_tape y hI.1, REST_tape y ⟨⟨?_, ?_, ?_⟩, fun i hi => ?_⟩ (fun i hi => ?_) hI.2⟩, GROW_YF y⟩
    · rw [g16]; omega
    · rw [g16]; omega
    · rw [g16, ap20_n]
    · rw [g16] at hi
      have e2 : ∀ i, i < s → gi (ap20 M 16 0 17 s a b c e g) 36 i = gi M 17 i := fun i hi => by
        rw [ap20_out (Or.inl (by decide)) (by decide)]
        exact k4 i (by omega)
      rw [ap20_out (M := ap20 M 16 0 17 s a b c e g) (x := 17) (Or.inl (by decide)) (by decide)]
      exact ap20_two (by decide) (by decide) e2 i (by omega)
    · rw [g16] at hi
      rw [ap20_out (M := ap20 M 16 0 17 s a b c e g) (x := 17) (Or.inl (by decide)) (by decide)]
      exact ap20_r (by decide) (fun i hi => kb i (by omega)) i (by omega)
  · rw [if_neg q]
    refine ⟨_, rfl, ?_⟩
    rw [y_feed (d := 17) h (k3.trans hs) (by omega), if_neg q]
    exact ⟨rfl, hI, GROW_refl⟩
theorem p_says (s c t n : Int) : PAIR 113 161 [vi s, vi c, vi t, vi n] := fun M hI => by
  obtain ⟨h, h1, h3, hf, -⟩ := hI.1
  have h1' := h1
  obtain ⟨⟨a1, a2, a3⟩, ⟨a4, a5, a6⟩, ⟨a7, a8, a9⟩, -⟩ := h1'
  rw [x_says (d := 16) h h1 h3 hf]
  have y := y_says (d := 17) (M := M) (s := s) (c := c) (t := t) (n := n) h (by omega) (by omega) hf (Q := fun w R => w = vi (if (0 ≤ s ∧ s < gi M 1 1) ∧ (0 ≤ c ∧ c < gi M 1 0) ∧ (0 ≤ t ∧ t < 288) ∧ 0 ≤ n ∧ n ≤ gi M 1 2 then hrd M s c n.toNat t.toNat else -1) ∧ INV R ∧ GROW M R)
  rw [a3, a6, a9] at y
  by_cases q : (0 ≤ s ∧ s < gi M 1 1) ∧ (0 ≤ c ∧ c < gi M 1 0) ∧ (0 ≤ t ∧ t < 288) ∧ 0 ≤ n ∧ n ≤ gi M 1 2
  · rw [if_pos q]
    refine ⟨_, rfl, ?_⟩
    rw [if_pos q, if_pos q] at y
    rw [y]
    have yf : YF (fun a _ => a = 64) M (sw M 64 (fun u => if u < 288 then hrd M s c n.toNat u else gi M 64 u)) := YF_DF (DF_sw rfl DF_refl)
    exact ⟨rfl, ⟨TI_YF yf (fun a i w => by
      have := kd_267 h (a := a) (by omega)
      refine ⟨by omega, fun v => ?_⟩
      unfold toldG isRow t35 at v
      omega) hI.1, REST_YF yf (fun a i w => ⟨by omega, by unfold restS; omega⟩) hI.2⟩, GROW_YF yf⟩
  · rw [if_neg q]
    refine ⟨_, rfl, ?_⟩
    rw [if_neg q, if_neg q] at y
    rw [y]
    exact ⟨rfl, hI, GROW_refl⟩
