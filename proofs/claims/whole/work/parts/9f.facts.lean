/-! ===== pairs: channels, notice, over ===== -/
theorem p_channels (n : Int) : PAIR 106 149 [vi n] := fun M hI => by
  have h := hI.1.1
  obtain ⟨i1, i2, i3, i4, i5, i6, i7, i8, i9⟩ := hI.1.2.1
  rw [x_channels (d := 18) h]
  by_cases q : (1 ≤ n ∧ n ≤ 6) ∧ gi M 1 2 ≤ 0
  · rw [if_pos q]
    refine ⟨_, rfl, ?_⟩
    have e37 : gi (si M 1 0 n) 35 37 = gi M 1 2 := by rw [gi_na (by decide)]; exact i3.2.2
    rw [y_channels (d := 18) (M := si M 1 0 n) h, if_pos (by rw [e37]; exact q)]
    have y : YF (fun x i => (x = 1 ∧ i = 0) ∨ (x = 35 ∧ (i = 34 ∨ i = 51))) M (si (si (si M 1 0 n) 35 34 n) 35 51 (-1)) := YF_si (by omega) (YF_si (by omega) (YF_si (by omega) YF_refl))
    have o : ∀ x i, ¬ ((x = 1 ∧ i = 0) ∨ (x = 35 ∧ (i = 34 ∨ i = 51))) → gi (si (si (si M 1 0 n) 35 34 n) 35 51 (-1)) x i = gi M x i := y.2
    refine ⟨rfl, ⟨?_, REST_YF y (fun x i w => ⟨by omega, by unfold restS; omega⟩) hI.2⟩, GROW_YF y⟩
    obtain ⟨-, -, h3, hf, ⟨K, p, hK, hp⟩, hc, hm⟩ := hI.1
    have tb : ∀ a i, 55 ≤ a → gi (si (si (si M 1 0 n) 35 34 n) 35 51 (-1)) a i = gi M a i := fun a i w => o a i (by omega)
    have e12 : gi (si (si (si M 1 0 n) 35 34 n) 35 51 (-1)) 1 2 = gi M 1 2 := o 1 2 (by omega)
    have e11 : gi (si (si (si M 1 0 n) 35 34 n) 35 51 (-1)) 1 1 = gi M 1 1 := o 1 1 (by omega)
    have f37 : gi (si (si (si M 1 0 n) 35 34 n) 35 51 (-1)) 35 37 = gi M 1 2 := by rw [o 35 37 (by omega)]; exact i3.2.2
    refine ⟨YF_SH y h, ?_, ⟨fun j hj => ?_, fun j hj => ?_⟩, fun k hk => ?_, ⟨K, p, by rw [e11]; exact hK, ?_⟩, ⟨SO_f y.1 hc.1, ?_⟩, Or.inl (gi_same _ _ _ _)⟩
    · unfold I1
      rw [e12, e11, f37, o 35 35 (by omega), o 20 0 (by omega), o 20 1 (by omega), o 20 2 (by omega), o 20 3 (by omega), o 20 4 (by omega), o 35 46 (by omega), o 35 47 (by omega), o 35 48 (by omega), o 35 49 (by omega), o 35 50 (by omega), o 35 17 (by omega), o 18 1 (by omega), gi_na (by decide), gi_na (by decide), gi_same, gi_ni (by decide), gi_same]
      exact ⟨⟨q.1.1, q.1.2, rfl⟩, i2, ⟨i3.1, i3.2.1, rfl⟩, i4, i5, i6, i7, i8, i9⟩
    · rw [e11] at hj
      obtain ⟨a, q8, q9, q10, q11, q12⟩ := h3.1 j hj
      refine ⟨a, q8, by rw [YF_n y]; exact q9, by rw [YF_r y]; exact q10, by rw [YF_k y]; exact q11, ?_⟩
      rw [tb a _ (by omega), tb a _ (by omega), tb 55 _ (by decide)]
      exact q12
    · rw [e12] at hj
      omega
    · rw [f37] at hk
      omega
    · unfold RKp bts at hp ⊢
      simp only [fun i => tb 55 i (by decide), YF_r y]
      exact hp
    · rcases hc.2 with w | ⟨n', W, w1, w2, w3, w4, w5⟩
      · exact Or.inl (by rw [o 5 1 (by omega)]; exact w)
      · have hn' : (n' : Int) ≤ gi M 35 37 := by omega
        have c6 := cnt_600 hf hn' W
        refine Or.inr ⟨n', W, by rw [o 5 1 (by omega)]; exact w1, by rw [o 5 2 (by omega)]; exact w2, by rw [e12]; exact w3, w4, ?_⟩
        refine DAYC_fe hf hn' ⟨fun a k q1 q2 _ => tb a k (by omega), fun s _ => tb 55 s (by decide)⟩ w4 w5 hc.1 h (by omega) (o 5 0 (by omega)) (fun a t q1 q2 => o a t (by omega)) (fun j => YF_r y 14 j) (fun a i ha hk => ⟨o a i ?_, by rw [YF_k y]; exact hk⟩)
        rintro (⟨rfl, -⟩ | ⟨rfl, -⟩)
        · rw [hk1 h] at hk; omega
        · rw [hk35 h] at hk; omega
  · rw [if_neg q]
    refine ⟨_, rfl, ?_⟩
    rw [y_channels (d := 18) h, if_neg (by rw [i3.2.2]; exact q)]
    exact ⟨rfl, hI, GROW_refl⟩
def adS (f a i : Nat) : Prop := (a = 1 ∧ i = 2) ∨ (56 ≤ a ∧ a ≤ 63 ∧ i = f) ∨ (a = 35 ∧ i = 37)
/-- a fact more -/
theorem TI_fact {M R : mM} {f : Nat} (hT : TI M) (hf : gi M 1 2 = f) (hf3 : f < 300) (hF : FRM (adS f) (fun a => a = 4) M R) (hnx : nx R = nx M + 1) (h12 : gi R 1 2 = (f + 1 : Nat)) (h37 : gi R 35 37 = (f + 1 : Nat)) (hr4 : ∀ j, j ≠ f → gr R 4 j = gr M 4 j) (h4f : gr R 4 f = some (nx M)) (hk : kd R (nx M) = 2)
    (hFM : (gi R 56 f = 0 ∨ gi R 56 f = 1) ∧ (0 ≤ gi R 58 f ∧ gi R 58 f < gi M 35 34) ∧ (gi R 56 f = 0 → (0 ≤ gi R 57 f ∧ gi R 57 f < gi M 35 35) ∧ (0 ≤ gi R 59 f ∧ gi R 59 f < gi R 60 f ∧ gi R 60 f ≤ 288) ∧ (0 ≤ gi R 61 f ∧ gi R 61 f ≤ 31) ∧ (0 ≤ gi R 62 f ∧ gi R 62 f ≤ 31) ∧ (gi R 63 f = 0 ∨ gi R 63 f = 1)) ∧ (gi R 56 f = 1 → (1 ≤ gi R 59 f ∧ gi R 59 f ≤ 287) ∧ 1 ≤ gi R 60 f ∧ gi R 60 f ≤ 48))
    (hI3 : gi R (nx M) 1 = gi R 58 f ∧ gi R (nx M) 2 = gi R 59 f ∧ (gi R 56 f = 0 → gr R (nx M) 0 = gr M 2 (gi R 57 f).toNat ∧ gi R (nx M) 3 = gi R 60 f ∧ gi R (nx M) 4 = gi R 61 f ∧ gi R (nx M) 5 = gi R 62 f ∧ gi R (nx M) 6 = gi R 63 f) ∧ (gi R 56 f = 1 → gr R (nx M) 0 = none ∧ gi R (nx M) 3 = gi R 59 f + gi R 60 f ∧ gi R (nx M) 4 = 0 ∧ gi R (nx M) 5 = 0 ∧ gi R (nx M) 6 = 0)) : TI R := by
  obtain ⟨h, h1, h3, hfm, ⟨K, p, hK, hp⟩, hc, hm⟩ := hT
  have h8 := h.2.2.2
  have hR := FRM_SH hF h (by decide)
  obtain ⟨i1, i2, i3, i4, i5, i6, i7, i8, i9⟩ := h1
  have g : ∀ a i, a < nx M → ¬ adS f a i → gi R a i = gi M a i := fun a i w1 w2 => hF.1 a i w1 w2
  have r : ∀ a i, a < nx M → a ≠ 4 → gr R a i = gr M a i := fun a i w1 w2 => hF.2.1 a i w1 w2
  have tb : ∀ a i, 55 ≤ a → a ≤ 63 → i ≠ f → gi R a i = gi M a i := fun a i w1 w2 w3 => g a i (by omega) (by unfold adS; omega)
  have t55 : ∀ i, gi R 55 i = gi M 55 i := fun i => g 55 i (by omega) (by unfold adS; omega)
  have f34 : gi R 35 34 = gi M 35 34 := g 35 34 (by omega) (by unfold adS; omega)
  have f35 : gi R 35 35 = gi M 35 35 := g 35 35 (by omega) (by unfold adS; omega)
  have e11 : gi R 1 1 = gi M 1 1 := g 1 1 (by omega) (by unfold adS; omega)
  have fen : ∀ n, n ≤ f → fe n M R := fun n hn => ⟨fun a k q1 q2 q3 => tb a k (by omega) q2 (by omega), fun s _ => t55 s⟩
  refine ⟨hR, ?_, ⟨fun j hj => ?_, fun j hj => ?_⟩, fun k hk' => ?_, ⟨K, p, by rw [e11]; exact hK, ?_⟩, ⟨⟨fun j a hj hja => ?_, fun i j a hi hj q1 q2 => ?_⟩, ?_⟩, ?_⟩
  · unfold I1
    rw [h12, h37, e11, f34, f35, g 1 0 (by omega) (by unfold adS; omega), g 20 0 (by omega) (by unfold adS; omega), g 20 1 (by omega) (by unfold adS; omega), g 20 2 (by omega) (by unfold adS; omega), g 20 3 (by omega) (by unfold adS; omega), g 20 4 (by omega) (by unfold adS; omega), g 35 46 (by omega) (by unfold adS; omega), g 35 47 (by omega) (by unfold adS; omega), g 35 48 (by omega) (by unfold adS; omega), g 35 49 (by omega) (by unfold adS; omega), g 35 50 (by omega) (by unfold adS; omega), g 35 17 (by omega) (by unfold adS; omega), g 18 1 (by omega) (by unfold adS; omega)]
    exact ⟨i1, i2, ⟨by omega, by omega, rfl⟩, i4, i5, i6, i7, i8, i9⟩
  · rw [e11] at hj
    obtain ⟨a, q8, q9, q10, q11, q12⟩ := h3.1 j hj
    refine ⟨a, q8, by omega, by rw [r 2 j (by omega) (by decide)]; exact q10, by rw [(hF.2.2.1 a q9).1]; exact q11, ?_⟩
    rw [g a 0 q9 (by unfold adS; omega), g a 1 q9 (by unfold adS; omega), t55]
    exact q12
  · by_cases z : j = f
    · subst z
      refine ⟨nx M, by omega, by omega, h4f, hk, hI3.1, hI3.2.1, fun w => ?_, hI3.2.2.2⟩
      rw [r 2 _ (by omega) (by decide)]
      exact hI3.2.2.1 w
    · rw [h12] at hj
      obtain ⟨a, q8, q9, q10, q11, q12⟩ := h3.2 j (by omega)
      have ga : ∀ i, gi R a i = gi M a i := fun i => g a i q9 (by unfold adS; omega)
      refine ⟨a, q8, by omega, by rw [hr4 j z]; exact q10, by rw [(hF.2.2.1 a q9).1]; exact q11, ?_⟩
      rw [ga, ga, ga, ga, ga, ga, r a 0 q9 (by omega), r 2 _ (by omega) (by decide), tb 56 j (by decide) (by decide) z, tb 57 j (by decide) (by decide) z, tb 58 j (by decide) (by decide) z, tb 59 j (by decide) (by decide) z, tb 60 j (by decide) (by decide) z, tb 61 j (by decide) (by decide) z, tb 62 j (by decide) (by decide) z, tb 63 j (by decide) (by decide) z]
      exact q12
  · rw [f34, f35]
    by_cases z : k = f
    · subst z; exact hFM
    · rw [h37] at hk'
      rw [tb 56 k (by decide) (by decide) z, tb 57 k (by decide) (by decide) z, tb 58 k (by decide) (by decide) z, tb 59 k (by decide) (by decide) z, tb 60 k (by decide) (by decide) z, tb 61 k (by decide) (by decide) z, tb 62 k (by decide) (by decide) z, tb 63 k (by decide) (by decide) z]
      exact hfm k (by omega)
  · unfold RKp bts at hp ⊢
    simp only [t55, fun i => r 2 i (by omega) (by decide), fun i => r 3 i (by omega) (by decide)]
    exact hp
  · rw [r 14 j (by omega) (by decide)] at hja
    obtain ⟨a1, a2, a3⟩ := hc.1.1 j a hj hja
    exact ⟨a1, by omega, by rw [(hF.2.2.1 a a2).1]; exact a3⟩
  · rw [r 14 i (by omega) (by decide)] at q1
    rw [r 14 j (by omega) (by decide)] at q2
    exact hc.1.2 i j a hi hj q1 q2
  · rcases hc.2 with w | ⟨n', W, w1, w2, w3, w4, w5⟩
    · exact Or.inl (by rw [g 5 1 (by omega) (by unfold adS; omega)]; exact w)
    · have hn' : (n' : Int) ≤ gi M 35 37 := by omega
      have c6 := cnt_600 hfm hn' W
      refine Or.inr ⟨n', W, by rw [g 5 1 (by omega) (by unfold adS; omega)]; exact w1, by rw [g 5 2 (by omega) (by unfold adS; omega)]; exact w2, by omega, w4, ?_⟩
      refine DAYC_fe hfm hn' (fen n' (by omega)) w4 w5 hc.1 h (by omega) (g 5 0 (by omega) (by unfold adS; omega)) (fun a t q1 q2 => g a t (by omega) (by unfold adS; omega)) (fun j => r 14 j (by omega) (by decide)) (fun a i ha hk => ⟨g a i ha ?_, by rw [(hF.2.2.1 a ha).1]; exact hk⟩)
      intro v
      have := kd_267 h (a := a) (by unfold adS at v; omega)
      omega
  · rcases hm with w | ⟨n', W, w1, w2, w3, w4, w5, w6⟩
    · exact Or.inl (by rw [g 35 51 (by omega) (by unfold adS; omega)]; exact w)
    · have hD := dyD hfm w3 (fen n' (by omega))
      refine Or.inr ⟨n', W, by rw [g 35 51 (by omega) (by unfold adS; omega)]; exact w1, by rw [f34]; exact w2, by omega, ?_, ?_, ?_⟩
      · intro c t hc' ht; rw [hD, g 65 _ (by omega) (by unfold adS; omega)]; exact w4 c t hc' ht
      · rw [hD, g 35 55 (by omega) (by unfold adS; omega)]; exact w5
      · rw [hD]; exact SHL_eq (fun a i q1 q2 => g a i (by omega) (by unfold adS; omega)) w6
theorem REST_fact {M R : mM} {f : Nat} (h : SH M) (hF : FRM (adS f) (fun a => a = 4) M R) (hR : REST M) : REST R := by
  have h8 := h.2.2.2
  exact REST_f (fun a ha => (hF.2.2.1 a ha).1) hF.2.2.2.1 (fun a i w => hF.2.1 a i (by omega) (by omega)) (fun a i w => hF.1 a i (by unfold restS at w; omega) (by unfold restS at w; unfold adS; omega)) (fun a i w1 w2 w3 => hF.1 a i w2 (by unfold adS; omega)) hR
/-- the class's memory with a new fact -/
def nwM (M : mM) (f : Nat) (o : Option Nat) (c a b t e l : Int) : mM := si (sr (fcM (al M 2 0 7) (nx M) o c a b t e l) 4 f (some (nx M))) 1 2 (f + 1 : Nat)
theorem gi_nwo {M : mM} {f x i : Nat} {o : Option Nat} {c a b t e l : Int} (h1 : x ≠ nx M) (h2 : ¬ (x = 1 ∧ i = 2)) : gi (nwM M f o c a b t e l) x i = gi M x i := by
  unfold nwM fcM
  rw [gi_si, if_neg h2, gi_sr, gi_na h1, gi_na h1, gi_na h1, gi_na h1, gi_na h1, gi_na h1, gi_sr, gi_al, if_neg h1]
theorem gi_nwn {M : mM} {f : Nat} {o : Option Nat} {c a b t e l : Int} (h : 88 ≤ nx M) : gi (nwM M f o c a b t e l) (nx M) 1 = c ∧ gi (nwM M f o c a b t e l) (nx M) 2 = a ∧ gi (nwM M f o c a b t e l) (nx M) 3 = b ∧ gi (nwM M f o c a b t e l) (nx M) 4 = t ∧ gi (nwM M f o c a b t e l) (nx M) 5 = e ∧ gi (nwM M f o c a b t e l) (nx M) 6 = l ∧ gr (nwM M f o c a b t e l) (nx M) 0 = o := by
  have n1 : nx M ≠ 1 := by omega
  have n4 : nx M ≠ 4 := by omega
  unfold nwM fcM
  refine ⟨?_, ?_, ?_, ?_, ?_, ?_, ?_⟩
  · rw [gi_na n1, gi_sr, gi_ni (by decide), gi_ni (by decide), gi_ni (by decide), gi_ni (by decide), gi_ni (by decide), gi_same]
  · rw [gi_na n1, gi_sr, gi_ni (by decide), gi_ni (by decide), gi_ni (by decide), gi_ni (by decide), gi_same]
  · rw [gi_na n1, gi_sr, gi_ni (by decide), gi_ni (by decide), gi_ni (by decide), gi_same]
  · rw [gi_na n1, gi_sr, gi_ni (by decide), gi_ni (by decide), gi_same]
  · rw [gi_na n1, gi_sr, gi_ni (by decide), gi_same]
  · rw [gi_na n1, gi_sr, gi_same]
  · rw [gr_si, gr_na n4, gr_si, gr_si, gr_si, gr_si, gr_si, gr_si, gr_same]
theorem FRM_nw {M : mM} {f : Nat} {o : Option Nat} {c a b t e l : Int} : FRM (adS f) (fun a => a = 4) M (nwM M f o c a b t e l) := by
  unfold nwM fcM
  exact FRM_si (fun _ => Or.inl ⟨rfl, rfl⟩) (FRM_sr (fun _ => rfl) (FRM_si (fun w => absurd w (Nat.lt_irrefl _)) (FRM_si (fun w => absurd w (Nat.lt_irrefl _)) (FRM_si (fun w => absurd w (Nat.lt_irrefl _)) (FRM_si (fun w => absurd w (Nat.lt_irrefl _)) (FRM_si (fun w => absurd w (Nat.lt_irrefl _)) (FRM_si (fun w => absurd w (Nat.lt_irrefl _)) (FRM_sr (fun w => absurd w (Nat.lt_irrefl _)) (FRM_al (by decide) FRM_refl)))))))))
theorem gr4_nw {M : mM} {f : Nat} {o : Option Nat} {c a b t e l : Int} (h : 88 ≤ nx M) : gr (nwM M f o c a b t e l) 4 f = some (nx M) ∧ (∀ j, j ≠ f → gr (nwM M f o c a b t e l) 4 j = gr M 4 j) ∧ kd (nwM M f o c a b t e l) (nx M) = 2 ∧ nx (nwM M f o c a b t e l) = nx M + 1 := by
  have n4 : (4 : Nat) ≠ nx M := by omega
  unfold nwM fcM
  refine ⟨?_, fun j hj => ?_, ?_, rfl⟩
  · rw [gr_si, gr_same]
  · rw [gr_si, gr_ni hj, gr_si, gr_si, gr_si, gr_si, gr_si, gr_si, gr_na n4, gr_al, if_neg n4]
  · rw [kd_si, kd_sr, kd_si, kd_si, kd_si, kd_si, kd_si, kd_si, kd_sr, kd_al, if_pos rfl]
theorem p_notice (s c a b t e l : Int) (hl : l = 0 ∨ l = 1) : PAIR 108 151 [vi s, vi c, vi a, vi b, vi t, vi e, vi l] := fun M hI => by
  have h := hI.1.1
  have h8 := h.2.2.2
  obtain ⟨i1, i2, i3, -⟩ := hI.1.2.1
  have h3 := hI.1.2.2.1
  obtain ⟨f, hf⟩ : ∃ f : Nat, gi M 1 2 = f := ⟨(gi M 1 2).toNat, by omega⟩
  rw [x_notice (d := 17) h hf (by omega) (by omega) (fun q1 q2 => by
    obtain ⟨x, -, -, q, -⟩ := h3.1 s.toNat (by omega)
    exact ⟨x, q⟩) hl]
  by_cases q : (0 ≤ s ∧ s < gi M 1 1) ∧ (0 ≤ c ∧ c < gi M 1 0) ∧ (0 ≤ a ∧ a < b ∧ b ≤ 288) ∧ (0 ≤ t ∧ t ≤ 31) ∧ (0 ≤ e ∧ e ≤ 31) ∧ f < 300
  · rw [if_pos q]
    refine ⟨_, rfl, ?_⟩
    show CP (mc 19) 151 [vr (some 35), vi s, vi c, vi a, vi b, vi t, vi e, vi l] (nwM M f (gr M 2 s.toNat) c a b t e l) _
    obtain ⟨⟨q1, q2⟩, ⟨q3, q4⟩, ⟨q5, q6, q7⟩, ⟨q8, q9⟩, ⟨q10, q11⟩, q12⟩ := q
    obtain ⟨r4, r4o, k2, nxn⟩ := gr4_nw (M := M) (f := f) (o := gr M 2 s.toNat) (c := c) (a := a) (b := b) (t := t) (e := e) (l := l) h8
    have F1 := FRM_nw (M := M) (f := f) (o := gr M 2 s.toNat) (c := c) (a := a) (b := b) (t := t) (e := e) (l := l)
    obtain ⟨v1, v2, v3, v4, v5, v6, v7⟩ := gi_nwn (M := M) (f := f) (o := gr M 2 s.toNat) (c := c) (a := a) (b := b) (t := t) (e := e) (l := l) h8
    have e12 : gi (nwM M f (gr M 2 s.toNat) c a b t e l) 1 2 = (f + 1 : Nat) := gi_same _ _ _ _
    have e35 : ∀ i, gi (nwM M f (gr M 2 s.toNat) c a b t e l) 35 i = gi M 35 i := fun i => gi_nwo (by omega) (by omega)
    have sh := FRM_SH F1 h (by decide)
    generalize nwM M f (gr M 2 s.toNat) c a b t e l = N at *
    rw [y_notice (d := 17) (M := N) sh (by rw [e35, i3.2.2]; exact hf) (by omega) hl, if_pos (by rw [e35, e35, i1.2.2, i2.2.2]; exact ⟨⟨q1, q2⟩, ⟨q3, q4⟩, ⟨q5, q6, q7⟩, ⟨q8, q9⟩, ⟨q10, q11⟩, q12⟩)]
    have F2 : FRM (adS f) (fun a => a = 4) M (si (si (si (si (si (si (si (si (si N 56 f 0) 57 f s) 58 f c) 59 f a) 60 f b) 61 f t) 62 f e) 63 f l) 35 37 (f + 1 : Nat)) := FRM_si (fun _ => by unfold adS; omega) (FRM_si (fun _ => by unfold adS; omega) (FRM_si (fun _ => by unfold adS; omega) (FRM_si (fun _ => by unfold adS; omega) (FRM_si (fun _ => by unfold adS; omega) (FRM_si (fun _ => by unfold adS; omega) (FRM_si (fun _ => by unfold adS; omega) (FRM_si (fun _ => by unfold adS; omega) (FRM_si (fun _ => by unfold adS; omega) F1))))))))
    have hi : ∀ x i, x ≠ 35 → ¬ (56 ≤ x ∧ x ≤ 63) → gi (si (si (si (si (si (si (si (si (si N 56 f 0) 57 f s) 58 f c) 59 f a) 60 f b) 61 f t) 62 f e) 63 f l) 35 37 (f + 1 : Nat)) x i = gi N x i := fun x i w1 w2 => by
      rw [gi_na w1, gi_na (by omega), gi_na (by omega), gi_na (by omega), gi_na (by omega), gi_na (by omega), gi_na (by omega), gi_na (by omega), gi_na (by omega)]
    have t56 : gi (si (si (si (si (si (si (si (si (si N 56 f 0) 57 f s) 58 f c) 59 f a) 60 f b) 61 f t) 62 f e) 63 f l) 35 37 (f + 1 : Nat)) 56 f = 0 := by
      rw [gi_na (by decide), gi_na (by decide), gi_na (by decide), gi_na (by decide), gi_na (by decide), gi_na (by decide), gi_na (by decide), gi_na (by decide), gi_same]
    have t57 : gi (si (si (si (si (si (si (si (si (si N 56 f 0) 57 f s) 58 f c) 59 f a) 60 f b) 61 f t) 62 f e) 63 f l) 35 37 (f + 1 : Nat)) 57 f = s := by
      rw [gi_na (by decide), gi_na (by decide), gi_na (by decide), gi_na (by decide), gi_na (by decide), gi_na (by decide), gi_na (by decide), gi_same]
    have t58 : gi (si (si (si (si (si (si (si (si (si N 56 f 0) 57 f s) 58 f c) 59 f a) 60 f b) 61 f t) 62 f e) 63 f l) 35 37 (f + 1 : Nat)) 58 f = c := by
      rw [gi_na (by decide), gi_na (by decide), gi_na (by decide), gi_na (by decide), gi_na (by decide), gi_na (by decide), gi_same]
    have t59 : gi (si (si (si (si (si (si (si (si (si N 56 f 0) 57 f s) 58 f c) 59 f a) 60 f b) 61 f t) 62 f e) 63 f l) 35 37 (f + 1 : Nat)) 59 f = a := by
      rw [gi_na (by decide), gi_na (by decide), gi_na (by decide), gi_na (by decide), gi_na (by decide), gi_same]
    have t60 : gi (si (si (si (si (si (si (si (si (si N 56 f 0) 57 f s) 58 f c) 59 f a) 60 f b) 61 f t) 62 f e) 63 f l) 35 37 (f + 1 : Nat)) 60 f = b := by
      rw [gi_na (by decide), gi_na (by decide), gi_na (by decide), gi_na (by decide), gi_same]
    have t61 : gi (si (si (si (si (si (si (si (si (si N 56 f 0) 57 f s) 58 f c) 59 f a) 60 f b) 61 f t) 62 f e) 63 f l) 35 37 (f + 1 : Nat)) 61 f = t := by
      rw [gi_na (by decide), gi_na (by decide), gi_na (by decide), gi_same]
    have t62 : gi (si (si (si (si (si (si (si (si (si N 56 f 0) 57 f s) 58 f c) 59 f a) 60 f b) 61 f t) 62 f e) 63 f l) 35 37 (f + 1 : Nat)) 62 f = e := by
      rw [gi_na (by decide), gi_na (by decide), gi_same]
    have t63 : gi (si (si (si (si (si (si (si (si (si N 56 f 0) 57 f s) 58 f c) 59 f a) 60 f b) 61 f t) 62 f e) 63 f l) 35 37 (f + 1 : Nat)) 63 f = l := by
      rw [gi_na (by decide), gi_same]
    have nxR : nx (si (si (si (si (si (si (si (si (si N 56 f 0) 57 f s) 58 f c) 59 f a) 60 f b) 61 f t) 62 f e) 63 f l) 35 37 (f + 1 : Nat)) = nx M + 1 := nxn
    refine ⟨rfl, ⟨TI_fact hI.1 hf q12 F2 nxR (by rw [hi 1 2 (by decide) (by omega)]; exact e12) (gi_same _ _ _ _) r4o r4 k2 ?_ ?_, REST_fact h F2 hI.2⟩, GROW_FRM F2 (by omega)⟩
    · rw [t56, t57, t58, t59, t60, t61, t62, t63, i1.2.2, i2.2.2]
      exact ⟨Or.inl rfl, ⟨q3, q4⟩, fun _ => ⟨⟨q1, q2⟩, ⟨q5, q6, q7⟩, ⟨q8, q9⟩, ⟨q10, q11⟩, hl⟩, fun w => absurd w (by decide)⟩
    · rw [t56, t57, t58, t59, t60, t61, t62, t63, hi _ 1 (by omega) (by omega), hi _ 2 (by omega) (by omega), hi _ 3 (by omega) (by omega), hi _ 4 (by omega) (by omega), hi _ 5 (by omega) (by omega), hi _ 6 (by omega) (by omega)]
      exact ⟨v1, v2, fun _ => ⟨v7, v3, v4, v5, v6⟩, fun w => absurd w (by decide)⟩
  · rw [if_neg q]
    refine ⟨_, rfl, ?_⟩
    rw [y_notice (d := 17) h (by rw [i3.2.2]; exact hf) (by omega) hl, if_neg (by rw [i1.2.2, i2.2.2]; exact q)]
    exact ⟨rfl, hI, GROW_refl⟩
theorem p_over (c t n : Int) : PAIR 109 152 [vi c, vi t, vi n] := fun M hI => by
  have h := hI.1.1
  have h8 := h.2.2.2
  obtain ⟨i1, i2, i3, -⟩ := hI.1.2.1
  obtain ⟨f, hf⟩ : ∃ f : Nat, gi M 1 2 = f := ⟨(gi M 1 2).toNat, by omega⟩
  rw [x_over (d := 17) h hf (by omega)]
  by_cases q : (0 ≤ c ∧ c < gi M 1 0) ∧ (1 ≤ t ∧ t ≤ 287) ∧ (1 ≤ n ∧ n ≤ 48) ∧ f < 300
  · rw [if_pos q]
    refine ⟨_, rfl, ?_⟩
    show CP (mc 19) 152 [vr (some 35), vi c, vi t, vi n] (nwM M f none c t (t + n) 0 0 0) _
    obtain ⟨⟨q3, q4⟩, ⟨q5, q6⟩, ⟨q7, q8⟩, q12⟩ := q
    obtain ⟨r4, r4o, k2, nxn⟩ := gr4_nw (M := M) (f := f) (o := none) (c := c) (a := t) (b := t + n) (t := 0) (e := 0) (l := 0) h8
    have F1 := FRM_nw (M := M) (f := f) (o := none) (c := c) (a := t) (b := t + n) (t := 0) (e := 0) (l := 0)
    obtain ⟨v1, v2, v3, v4, v5, v6, v7⟩ := gi_nwn (M := M) (f := f) (o := none) (c := c) (a := t) (b := t + n) (t := 0) (e := 0) (l := 0) h8
    have e12 : gi (nwM M f none c t (t + n) 0 0 0) 1 2 = (f + 1 : Nat) := gi_same _ _ _ _
    have e35 : ∀ i, gi (nwM M f none c t (t + n) 0 0 0) 35 i = gi M 35 i := fun i => gi_nwo (by omega) (by omega)
    have sh := FRM_SH F1 h (by decide)
    generalize nwM M f none c t (t + n) 0 0 0 = N at *
    rw [y_over (d := 17) (M := N) sh (by rw [e35, i3.2.2]; exact hf) (by omega), if_pos (by rw [e35, i1.2.2]; exact ⟨⟨q3, q4⟩, ⟨q5, q6⟩, ⟨q7, q8⟩, q12⟩)]
    have F2 : FRM (adS f) (fun a => a = 4) M (si (si (si (si (si N 56 f 1) 58 f c) 59 f t) 60 f n) 35 37 (f + 1 : Nat)) := FRM_si (fun _ => by unfold adS; omega) (FRM_si (fun _ => by unfold adS; omega) (FRM_si (fun _ => by unfold adS; omega) (FRM_si (fun _ => by unfold adS; omega) (FRM_si (fun _ => by unfold adS; omega) F1))))
    have hi : ∀ x i, x ≠ 35 → ¬ (56 ≤ x ∧ x ≤ 63) → gi (si (si (si (si (si N 56 f 1) 58 f c) 59 f t) 60 f n) 35 37 (f + 1 : Nat)) x i = gi N x i := fun x i w1 w2 => by
      rw [gi_na w1, gi_na (by omega), gi_na (by omega), gi_na (by omega), gi_na (by omega)]
    have t56 : gi (si (si (si (si (si N 56 f 1) 58 f c) 59 f t) 60 f n) 35 37 (f + 1 : Nat)) 56 f = 1 := by
      rw [gi_na (by decide), gi_na (by decide), gi_na (by decide), gi_na (by decide), gi_same]
    have t58 : gi (si (si (si (si (si N 56 f 1) 58 f c) 59 f t) 60 f n) 35 37 (f + 1 : Nat)) 58 f = c := by
      rw [gi_na (by decide), gi_na (by decide), gi_na (by decide), gi_same]
    have t59 : gi (si (si (si (si (si N 56 f 1) 58 f c) 59 f t) 60 f n) 35 37 (f + 1 : Nat)) 59 f = t := by
      rw [gi_na (by decide), gi_na (by decide), gi_same]
    have t60 : gi (si (si (si (si (si N 56 f 1) 58 f c) 59 f t) 60 f n) 35 37 (f + 1 : Nat)) 60 f = n := by
      rw [gi_na (by decide), gi_same]
    have nxR : nx (si (si (si (si (si N 56 f 1) 58 f c) 59 f t) 60 f n) 35 37 (f + 1 : Nat)) = nx M + 1 := nxn
    refine ⟨rfl, ⟨TI_fact hI.1 hf q12 F2 nxR (by rw [hi 1 2 (by decide) (by omega)]; exact e12) (gi_same _ _ _ _) r4o r4 k2 ?_ ?_, REST_fact h F2 hI.2⟩, GROW_FRM F2 (by omega)⟩
    · rw [t56, t58, t59, t60, i1.2.2]
      exact ⟨Or.inr rfl, ⟨q3, q4⟩, fun w => absurd w (by decide), fun _ => ⟨⟨q5, q6⟩, q7, q8⟩⟩
    · rw [t56, t58, t59, t60, hi _ 1 (by omega) (by omega), hi _ 2 (by omega) (by omega), hi _ 3 (by omega) (by omega), hi _ 4 (by omega) (by omega), hi _ 5 (by omega) (by omega), hi _ 6 (by omega) (by omega)]
      exact ⟨v1, v2, fun w => absurd w (by decide), fun _ => ⟨v7, v3, v4, v5, v6⟩⟩
  · rw [if_neg q]
    refine ⟨_, rfl, ?_⟩
    rw [y_over (d := 17) h (by rw [i3.2.2]; exact hf) (by omega), if_neg (by rw [i1.2.2]; exact q)]
    exact ⟨rfl, hI, GROW_refl⟩
