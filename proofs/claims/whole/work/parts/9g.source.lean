/-! ===== the pair source ===== -/
theorem ins_ge (T : Nat → Int) (t : Int) : ∀ n r, ins T t n ≤ r → r < n → t ≤ T r := by
  intro n
  induction n with
  | zero => intro r _ h; exact absurd h (Nat.not_lt_zero r)
  | succ n ih =>
    intro r h1 h2
    rw [ins] at h1
    by_cases z : t ≤ T n
    · rw [if_pos z] at h1
      by_cases y : r = n
      · rw [y]; exact z
      · exact ih r h1 (by omega)
    · rw [if_neg z] at h1; omega
theorem ins_lt (T : Nat → Int) (t : Int) : ∀ n, 0 < ins T t n → T (ins T t n - 1) < t := by
  intro n
  induction n with
  | zero => intro h; exact absurd h (Nat.lt_irrefl 0)
  | succ n ih =>
    intro h
    rw [ins] at h ⊢
    by_cases z : t ≤ T n
    · rw [if_pos z] at h ⊢; exact ih h
    · rw [if_neg z, Nat.add_sub_cancel]; omega
def soS (n a i : Nat) : Prop := (a = 1 ∧ i = 1) ∨ (a = 55 ∧ i = n) ∨ (a = 35 ∧ i = 35)
theorem p_source (t : Int) : PAIR 107 150 [vi t] := fun M hI => by
  have h := hI.1.1
  have h8 := h.2.2.2
  have i0 := hI.1.2.1
  obtain ⟨i1, i2, i3, i4, i5, i6, i7, i8, i9⟩ := i0
  obtain ⟨-, -, h3, hfm, ⟨K, p, hK, hp⟩, hc, hm⟩ := hI.1
  obtain ⟨n, hn⟩ : ∃ n : Nat, gi M 1 1 = n := ⟨(gi M 1 1).toNat, by omega⟩
  have eK : K = n := by omega
  subst eK
  have n6 : K ≤ 6 := by omega
  obtain ⟨p1, p2, p3⟩ := hp
  have cell : ∀ k, k < K → gr M 3 k = some ((gr M 3 k).getD 0) ∧ 88 ≤ (gr M 3 k).getD 0 ∧ (gr M 3 k).getD 0 < nx M ∧ kd M ((gr M 3 k).getD 0) = 7 ∧ gi M ((gr M 3 k).getD 0) 0 < K ∧ gi M ((gr M 3 k).getD 0) 1 = gi M 55 (p k) := fun k hk => by
    obtain ⟨q1, q2⟩ := p1 k hk
    obtain ⟨a, a1, a2, a3, a4, a5, a6, -⟩ := h3.1 (p k) (by omega)
    have e : (gr M 3 k).getD 0 = a := by rw [q2, a3]; rfl
    rw [e]
    exact ⟨by rw [q2]; exact a3, a1, a2, a4, by omega, a6⟩
  rw [x_source (d := 16) (R := fun k => (gr M 3 k).getD 0) (T := fun k => gi M 55 (p k)) h hn cell]
  by_cases q : (1 ≤ t ∧ t ≤ 9) ∧ K < 6
  · rw [if_pos q]
    refine ⟨_, rfl, ?_⟩
    have hge := ins_ge (fun k => gi M 55 (p k)) t K
    have hlt := ins_lt (fun k => gi M 55 (p k)) t K
    have hle := ins_le (fun k => gi M 55 (p k)) t K
    generalize ins (fun k => gi M 55 (p k)) t K = g at *
    have n1 : (1 : Nat) ≠ nx M := by omega
    have n2 : (2 : Nat) ≠ nx M := by omega
    have n3 : (3 : Nat) ≠ nx M := by omega
    have F1 : FRM (soS K) (fun a => a = 2 ∨ a = 3) M (srcM M K g t) := by
      unfold srcM soM
      exact FRM_si (fun _ => Or.inl ⟨rfl, rfl⟩) (FRM_sr (fun _ => Or.inr rfl) (FRM_sv (fun _ => Or.inr rfl) (FRM_sr (fun _ => Or.inl rfl) (FRM_si (fun w => absurd w (Nat.lt_irrefl _)) (FRM_si (fun w => absurd w (Nat.lt_irrefl _)) (FRM_al (by decide) FRM_refl))))))
    have sh := FRM_SH F1 h (by decide)
    have nxn : nx (srcM M K g t) = nx M + 1 := rfl
    have e11 : gi (srcM M K g t) 1 1 = (K + 1 : Nat) := gi_same _ _ _ _
    have r3 : ∀ j, gr (srcM M K g t) 3 j = if j = g then some (nx M) else if g < j ∧ j ≤ K then gr M 3 (j - 1) else gr M 3 j := fun j => by
      unfold srcM
      rw [gr_si, gr_sr]
      by_cases z : j = g
      · rw [if_pos ⟨rfl, z⟩, if_pos z]
      · rw [if_neg (fun w => z w.2), if_neg z]
        rw [gr_svs]
    have r2 : ∀ j, gr (srcM M K g t) 2 j = if j = K then some (nx M) else gr M 2 j := fun j => by
      unfold srcM
      rw [gr_si, gr_na (by decide), gr_svn (by decide)]
      unfold soM
      rw [gr_sr]
      by_cases z : j = K
      · rw [if_pos ⟨rfl, z⟩, if_pos z]
      · rw [if_neg (fun w => z w.2), if_neg z, gr_si, gr_si, gr_al, if_neg n2]
    have new : kd (srcM M K g t) (nx M) = 7 ∧ gi (srcM M K g t) (nx M) 0 = K ∧ gi (srcM M K g t) (nx M) 1 = t := by
      have m1 : nx M ≠ 1 := fun w => n1 w.symm
      refine ⟨?_, ?_, ?_⟩
      · show kd (al M 7 0 2) (nx M) = 7
        rw [kd_al, if_pos rfl]
      · unfold srcM
        rw [gi_na m1]
        show gi (si (si (al M 7 0 2) (nx M) 0 K) (nx M) 1 t) (nx M) 0 = _
        rw [gi_ni (by decide), gi_same]
      · unfold srcM
        rw [gi_na m1]
        show gi (si (si (al M 7 0 2) (nx M) 0 K) (nx M) 1 t) (nx M) 1 = _
        rw [gi_same]
    obtain ⟨kn, g0n, g1n⟩ := new
    have e35 : ∀ i, gi (srcM M K g t) 35 i = gi M 35 i := fun i => by
      have m : (35 : Nat) ≠ nx M := by omega
      unfold srcM
      rw [gi_na (by decide)]
      show gi (si (si (al M 7 0 2) (nx M) 0 K) (nx M) 1 t) 35 i = _
      rw [gi_na m, gi_na m, gi_al, if_neg m]
    generalize srcM M K g t = N at *
    rw [y_source (d := 18) (M := N) sh (by rw [e35, i2.2.2]; exact hn) n6, if_pos q]
    have F2 : FRM (soS K) (fun a => a = 2 ∨ a = 3) M (si (si N 55 K t) 35 35 (K + 1 : Nat)) := FRM_si (fun _ => by unfold soS; omega) (FRM_si (fun _ => by unfold soS; omega) F1)
    have hR := FRM_SH F2 h (by decide)
    have gR : ∀ a i, a < nx M → ¬ soS K a i → gi (si (si N 55 K t) 35 35 (K + 1 : Nat)) a i = gi M a i := fun a i w1 w2 => F2.1 a i w1 w2
    have rR : ∀ a i, a < nx M → a ≠ 2 → a ≠ 3 → gr (si (si N 55 K t) 35 35 (K + 1 : Nat)) a i = gr M a i := fun a i w1 w2 w3 => F2.2.1 a i w1 (by omega)
    have rR2 : ∀ j, gr (si (si N 55 K t) 35 35 (K + 1 : Nat)) 2 j = if j = K then some (nx M) else gr M 2 j := r2
    have rR3 : ∀ j, gr (si (si N 55 K t) 35 35 (K + 1 : Nat)) 3 j = if j = g then some (nx M) else if g < j ∧ j ≤ K then gr M 3 (j - 1) else gr M 3 j := r3
    have t55 : ∀ i, gi (si (si N 55 K t) 35 35 (K + 1 : Nat)) 55 i = if i = K then t else gi M 55 i := fun i => by
      by_cases z : i = K
      · rw [if_pos z, z, gi_na (by decide), gi_same]
      · rw [if_neg z]
        exact gR 55 i (by omega) (by unfold soS; omega)
    have f11 : gi (si (si N 55 K t) 35 35 (K + 1 : Nat)) 1 1 = (K + 1 : Nat) := by rw [gi_na (by decide), gi_na (by decide)]; exact e11
    have f35 : gi (si (si N 55 K t) 35 35 (K + 1 : Nat)) 35 35 = (K + 1 : Nat) := gi_same _ _ _ _
    have fnx : nx (si (si N 55 K t) 35 35 (K + 1 : Nat)) = nx M + 1 := nxn
    have gNn : gi (si (si N 55 K t) 35 35 (K + 1 : Nat)) (nx M) 0 = K ∧ gi (si (si N 55 K t) 35 35 (K + 1 : Nat)) (nx M) 1 = t := by
      rw [gi_na (by omega), gi_na (by omega), gi_na (by omega), gi_na (by omega)]
      exact ⟨g0n, g1n⟩
    have kNn : kd (si (si N 55 K t) 35 35 (K + 1 : Nat)) (nx M) = 7 := kn
    generalize si (si N 55 K t) 35 35 (K + 1 : Nat) = P at *
    have tb : ∀ a i, 56 ≤ a → a ≤ 70 → gi P a i = gi M a i := fun a i w1 w2 => gR a i (by omega) (by unfold soS; omega)
    have g34 : gi P 35 34 = gi M 35 34 := gR 35 34 (by omega) (by unfold soS; omega)
    have g37 : gi P 35 37 = gi M 35 37 := gR 35 37 (by omega) (by unfold soS; omega)
    have g12 : gi P 1 2 = gi M 1 2 := gR 1 2 (by omega) (by unfold soS; omega)
    have fen : ∀ n, fe n M P := fun n => ⟨fun a k q1 q2 _ => tb a k q1 (by omega), fun s hs => by rw [t55, if_neg (by omega)]⟩
    refine ⟨rfl, ⟨⟨hR, ?_, ⟨fun j hj => ?_, fun j hj => ?_⟩, fun k hk' => ?_, ⟨K + 1, fun r => if r < g then p r else if r = g then K else p (r - 1), f11, ?_⟩, ⟨⟨fun j a hj hja => ?_, fun i j a hi hj q1 q2 => ?_⟩, ?_⟩, ?_⟩, ?_⟩, GROW_FRM F2 (by omega)⟩
    · unfold I1
      rw [f11, f35, g12, g34, g37, gR 1 0 (by omega) (by unfold soS; omega), gR 20 0 (by omega) (by unfold soS; omega), gR 20 1 (by omega) (by unfold soS; omega), gR 20 2 (by omega) (by unfold soS; omega), gR 20 3 (by omega) (by unfold soS; omega), gR 20 4 (by omega) (by unfold soS; omega), gR 35 46 (by omega) (by unfold soS; omega), gR 35 47 (by omega) (by unfold soS; omega), gR 35 48 (by omega) (by unfold soS; omega), gR 35 49 (by omega) (by unfold soS; omega), gR 35 50 (by omega) (by unfold soS; omega), gR 35 17 (by omega) (by unfold soS; omega), gR 18 1 (by omega) (by unfold soS; omega)]
      exact ⟨i1, ⟨by omega, by omega, rfl⟩, i3, i4, i5, i6, i7, i8, i9⟩
    · rw [f11] at hj
      by_cases z : j = K
      · subst z
        refine ⟨nx M, h8, by omega, by rw [rR2, if_pos rfl], kNn, gNn.1, by rw [gNn.2, t55, if_pos rfl], by rw [t55, if_pos rfl]; exact q.1⟩
      · obtain ⟨a, q8, q9, q10, q11, q12⟩ := h3.1 j (by omega)
        refine ⟨a, q8, by omega, by rw [rR2, if_neg z]; exact q10, by rw [(F2.2.2.1 a q9).1]; exact q11, ?_⟩
        rw [gR a 0 q9 (by unfold soS; omega), gR a 1 q9 (by unfold soS; omega), t55, if_neg z]
        exact q12
    · rw [g12] at hj
      obtain ⟨a, q8, q9, q10, q11, q12⟩ := h3.2 j hj
      have ga : ∀ i, gi P a i = gi M a i := fun i => gR a i q9 (by unfold soS; omega)
      refine ⟨a, q8, by omega, by rw [rR 4 j (by omega) (by decide) (by decide)]; exact q10, by rw [(F2.2.2.1 a q9).1]; exact q11, ?_⟩
      rw [ga, ga, ga, ga, ga, ga, rR a 0 q9 (by omega) (by omega), tb 56 j (by decide) (by decide), tb 57 j (by decide) (by decide), tb 58 j (by decide) (by decide), tb 59 j (by decide) (by decide), tb 60 j (by decide) (by decide), tb 61 j (by decide) (by decide), tb 62 j (by decide) (by decide), tb 63 j (by decide) (by decide)]
      refine ⟨q12.1, q12.2.1, fun w => ?_, q12.2.2.2⟩
      have s57 := ((hfm j (by omega)).2.2.1 w).1
      rw [rR2, if_neg (by omega)]
      exact q12.2.2.1 w
    · rw [g37] at hk'
      rw [tb 56 k (by decide) (by decide), tb 57 k (by decide) (by decide), tb 58 k (by decide) (by decide), tb 59 k (by decide) (by decide), tb 60 k (by decide) (by decide), tb 61 k (by decide) (by decide), tb 62 k (by decide) (by decide), tb 63 k (by decide) (by decide), g34, f35]
      obtain ⟨y1, y2, y3, y4⟩ := hfm k hk'
      refine ⟨y1, y2, fun w => ?_, y4⟩
      obtain ⟨x1, x2⟩ := y3 w
      exact ⟨⟨x1.1, by omega⟩, x2⟩
    · -- the ranks
      have bM : ∀ x y, x ≠ K → y ≠ K → bts M x y → bts P x y := fun x y w1 w2 w3 => by
        unfold bts at w3 ⊢
        rw [t55, t55, if_neg w1, if_neg w2]
        exact w3
      have mono : ∀ r r', r ≤ r' → r' < K → gi M 55 (p r) ≤ gi M 55 (p r') := fun r r' w1 w2 => by
        rcases Nat.lt_or_ge r r' with w | w
        · have := p2 r r' w w2
          unfold bts at this
          omega
        · have : r = r' := by omega
          rw [this]; exact Int.le_refl _
      have nK : ∀ r, r < K → p r ≠ K := fun r w => by have := (p1 r w).1; omega
      refine ⟨fun r hr => ?_, fun r r' h1 h2 => ?_, fun j hj => ?_⟩
      · simp only
        rw [rR3]
        by_cases z1 : r < g
        · rw [if_pos z1, if_neg (by omega), if_neg (by omega), rR2, if_neg (nK r (by omega))]
          exact ⟨by have := (p1 r (by omega)).1; omega, (p1 r (by omega)).2⟩
        · rw [if_neg z1]
          by_cases z2 : r = g
          · rw [if_pos z2, if_pos z2, rR2, if_pos rfl]
            exact ⟨Nat.lt_succ_self K, rfl⟩
          · rw [if_neg z2, if_neg z2, if_pos (by omega), rR2, if_neg (nK (r - 1) (by omega))]
            exact ⟨by have := (p1 (r - 1) (by omega)).1; omega, (p1 (r - 1) (by omega)).2⟩
      · simp only
        by_cases z1 : r < g
        · rw [if_pos z1]
          by_cases y1 : r' < g
          · rw [if_pos y1]
            exact bM _ _ (nK r' (by omega)) (nK r (by omega)) (p2 r r' h1 (by omega))
          · rw [if_neg y1]
            by_cases y2 : r' = g
            · rw [if_pos y2]
              have a1 := hlt (by omega)
              have a2 := mono r (g - 1) (by omega) (by omega)
              unfold bts
              rw [t55, t55, if_pos rfl, if_neg (nK r (by omega))]
              exact Or.inl (by have a1' : gi M 55 (p (g - 1)) < t := a1; omega)
            · rw [if_neg y2]
              exact bM _ _ (nK (r' - 1) (by omega)) (nK r (by omega)) (p2 r (r' - 1) (by omega) (by omega))
        · rw [if_neg z1]
          by_cases z2 : r = g
          · rw [if_pos z2, if_neg (by omega), if_neg (by omega)]
            have a1 : t ≤ gi M 55 (p (r' - 1)) := hge (r' - 1) (by omega) (by omega)
            have a2 := (p1 (r' - 1) (by omega)).1
            unfold bts
            rw [t55, t55, if_pos rfl, if_neg (nK (r' - 1) (by omega))]
            omega
          · rw [if_neg z2, if_neg (by omega), if_neg (by omega)]
            exact bM _ _ (nK (r' - 1) (by omega)) (nK (r - 1) (by omega)) (p2 (r - 1) (r' - 1) (by omega) (by omega))
      · by_cases z : j = K
        · refine ⟨g, by omega, ?_⟩
          simp only
          rw [if_neg (by omega), if_pos trivial, z]
        · obtain ⟨r, hr, e⟩ := p3 j (by omega)
          by_cases y : r < g
          · refine ⟨r, by omega, ?_⟩
            simp only
            rw [if_pos y]; exact e
          · refine ⟨r + 1, by omega, ?_⟩
            simp only
            rw [if_neg (by omega), if_neg (by omega), Nat.add_sub_cancel]; exact e
    · rw [rR 14 j (by omega) (by decide) (by decide)] at hja
      obtain ⟨a1, a2, a3⟩ := hc.1.1 j a hj hja
      exact ⟨a1, by omega, by rw [(F2.2.2.1 a a2).1]; exact a3⟩
    · rw [rR 14 i (by omega) (by decide) (by decide)] at q1
      rw [rR 14 j (by omega) (by decide) (by decide)] at q2
      exact hc.1.2 i j a hi hj q1 q2
    · rcases hc.2 with w | ⟨n', W, w1, w2, w3, w4, w5⟩
      · exact Or.inl (by rw [gR 5 1 (by omega) (by unfold soS; omega)]; exact w)
      · have hn' : (n' : Int) ≤ gi M 35 37 := by omega
        have c6 := cnt_600 hfm hn' W
        refine Or.inr ⟨n', W, by rw [gR 5 1 (by omega) (by unfold soS; omega)]; exact w1, by rw [gR 5 2 (by omega) (by unfold soS; omega)]; exact w2, by omega, w4, ?_⟩
        refine DAYC_fe hfm hn' (fen n') w4 w5 hc.1 h (by omega) (gR 5 0 (by omega) (by unfold soS; omega)) (fun a t q1 q2 => gR a t (by omega) (by unfold soS; omega)) (fun j => rR 14 j (by omega) (by decide) (by decide)) (fun a i ha hk => ⟨gR a i ha ?_, by rw [(F2.2.2.1 a ha).1]; exact hk⟩)
        intro v
        have := kd_267 h (a := a) (by unfold soS at v; omega)
        omega
    · rcases hm with w | ⟨n', W, w1, w2, w3, w4, w5, w6⟩
      · exact Or.inl (by rw [gR 35 51 (by omega) (by unfold soS; omega)]; exact w)
      · have hD := dyD hfm w3 (fen n')
        refine Or.inr ⟨n', W, by rw [gR 35 51 (by omega) (by unfold soS; omega)]; exact w1, by rw [g34]; exact w2, by omega, ?_, ?_, ?_⟩
        · intro c t hc' ht; rw [hD, tb 65 _ (by decide) (by decide)]; exact w4 c t hc' ht
        · rw [hD, gR 35 55 (by omega) (by unfold soS; omega)]; exact w5
        · rw [hD]; exact SHL_eq (fun a i q1 q2 => tb a i (by omega) (by omega)) w6
    · exact REST_f (fun a ha => (F2.2.2.1 a ha).1) F2.2.2.2.1 (fun a i w => rR a i (by omega) (by omega) (by omega)) (fun a i w => gR a i (by unfold restS at w; omega) (by unfold restS at w; unfold soS; omega)) (fun a i w1 w2 w3 => gR a i w2 (by unfold soS; omega)) hI.2
  · rw [if_neg q]
    refine ⟨_, rfl, ?_⟩
    rw [y_source (d := 18) h (by rw [i2.2.2]; exact hn) n6, if_neg q]
    exact ⟨rfl, hI, GROW_refl⟩
