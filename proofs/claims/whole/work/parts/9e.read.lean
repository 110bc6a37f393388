/-! ===== the pair read ===== -/
theorem TI_c3 {M N : mM} (hN : SH N) (hI : I1 N) (hk : ∀ a, a < nx M → kd N a = kd M a) (hn : nx M ≤ nx N) (hr : ∀ a i, a < nx M → toldR M a → gr N a i = gr M a i) (hg : ∀ a i, a < nx M → toldH M a i → gi N a i = gi M a i) (hT : TI M) : TI N := by
  obtain ⟨h0, h1, h3, hf, ⟨S, p, hS, hp⟩, hc, hm⟩ := hT
  have h8 := h0.2.2.2
  have i1 := h1
  obtain ⟨-, -, ⟨b7, b8, b9⟩, -⟩ := i1
  have e1 : ∀ i, gi N 1 i = gi M 1 i := fun i => hg 1 i (by omega) (Or.inl rfl)
  have e5 : ∀ i, i ≤ 2 → gi N 5 i = gi M 5 i := fun i h => hg 5 i (by omega) (by unfold toldH; omega)
  have e35 : ∀ i, (i = 34 ∨ i = 35 ∨ i = 37 ∨ i = 51 ∨ i = 55) → gi N 35 i = gi M 35 i := fun i h => hg 35 i (by omega) (by unfold toldH; omega)
  have tb : ∀ a i, 55 ≤ a → a ≤ 63 → gi N a i = gi M a i := fun a i h1 h2 => hg a i (by omega) (by unfold toldH; omega)
  have r2 : ∀ i, gr N 2 i = gr M 2 i := fun i => hr 2 i (by omega) (Or.inl rfl)
  have r3 : ∀ i, gr N 3 i = gr M 3 i := fun i => hr 3 i (by omega) (by unfold toldR; omega)
  have r4 : ∀ i, gr N 4 i = gr M 4 i := fun i => hr 4 i (by omega) (by unfold toldR; omega)
  have r14 : ∀ i, gr N 14 i = gr M 14 i := fun i => hr 14 i (by omega) (by unfold toldR; omega)
  have f34 := e35 34 (by omega)
  have f35 := e35 35 (by omega)
  have f37 := e35 37 (by omega)
  have fen : ∀ n, fe n M N := fun n => ⟨fun a k h1 h2 _ => tb a k (by omega) h2, fun s _ => tb 55 s (by decide) (by decide)⟩
  refine ⟨hN, hI, ?_, ?_, ⟨S, p, by rw [e1]; exact hS, ?_⟩, ⟨?_, ?_⟩, ?_⟩
  · unfold I3 at h3 ⊢
    simp only [e1, fun i => tb 55 i (by decide) (by decide), fun i => tb 56 i (by decide) (by decide), fun i => tb 57 i (by decide) (by decide), fun i => tb 58 i (by decide) (by decide), fun i => tb 59 i (by decide) (by decide), fun i => tb 60 i (by decide) (by decide), fun i => tb 61 i (by decide) (by decide), fun i => tb 62 i (by decide) (by decide), fun i => tb 63 i (by decide) (by decide), r2, r4]
    refine ⟨fun j hj => ?_, fun j hj => ?_⟩
    · obtain ⟨a, q8, q9, q10, q11, q12⟩ := h3.1 j hj
      have ea := fun i => hg a i q9 (by unfold toldH; omega)
      refine ⟨a, q8, by omega, q10, by rw [hk a q9]; exact q11, ?_⟩
      simp only [ea]
      exact q12
    · obtain ⟨a, q8, q9, q10, q11, q12⟩ := h3.2 j hj
      have ea := fun i => hg a i q9 (by unfold toldH; omega)
      have ra := fun i => hr a i q9 (by unfold toldR; omega)
      refine ⟨a, q8, by omega, q10, by rw [hk a q9]; exact q11, ?_⟩
      simp only [ea, ra]
      exact q12
  · unfold FM at hf ⊢
    simp only [f34, f35, f37, fun i => tb 56 i (by decide) (by decide), fun i => tb 57 i (by decide) (by decide), fun i => tb 58 i (by decide) (by decide), fun i => tb 59 i (by decide) (by decide), fun i => tb 60 i (by decide) (by decide), fun i => tb 61 i (by decide) (by decide), fun i => tb 62 i (by decide) (by decide), fun i => tb 63 i (by decide) (by decide)]
    exact hf
  · unfold RKp bts at hp ⊢
    simp only [fun i => tb 55 i (by decide) (by decide), r2, r3]
    exact hp
  · obtain ⟨s1, s2⟩ := hc.1
    refine ⟨fun j a hj hja => ?_, fun i j a hi hj q1 q2 => ?_⟩
    · rw [r14] at hja
      obtain ⟨a1, a2, a3⟩ := s1 j a hj hja
      exact ⟨a1, by omega, by rw [hk a a2]; exact a3⟩
    · rw [r14] at q1 q2
      exact s2 i j a hi hj q1 q2
  · rcases hc.2 with w | ⟨n, W, w1, w2, w3, w4, w5⟩
    · exact Or.inl (by rw [e5 1 (by decide)]; exact w)
    · have c6 := cnt_600 hf (n := n) (by omega) W
      refine Or.inr ⟨n, W, by rw [e5 1 (by decide)]; exact w1, by rw [e5 2 (by decide)]; exact w2, by rw [e1]; exact w3, w4, ?_⟩
      exact DAYC_fe hf (by omega) (fen n) w4 w5 hc.1 h0 (by omega) (e5 0 (by decide)) (fun a t q1 q2 => hg a t (by omega) (by unfold toldH isRow; omega)) r14 (fun a i ha hka => ⟨hg a i ha (by unfold toldH; omega), by rw [hk a ha]; exact hka⟩)
  · rcases hm with w | ⟨n, W, w1, w2, w3, w4, w5, w6⟩
    · exact Or.inl (by rw [e35 51 (by omega)]; exact w)
    · have hD := dyD hf w3 (fen n)
      refine Or.inr ⟨n, W, by rw [e35 51 (by omega)]; exact w1, by rw [f34]; exact w2, by rw [f37]; exact w3, ?_, ?_, ?_⟩
      · intro c t hc ht; rw [hD, hg 65 _ (by omega) (by unfold toldH; omega)]; exact w4 c t hc ht
      · rw [hD, e35 55 (by omega)]; exact w5
      · rw [hD]; exact SHL_eq (fun a i h1 h2 => hg a i (by omega) (by unfold toldH; omega)) w6
theorem VL_g {M N : mM} {sd c i : Nat} (h : ∀ a, 47 ≤ a → a ≤ 51 → gi N a (400 * sd + i) = gi M a (400 * sd + i)) (hc : ∀ j, 500 * sd ≤ j → j < 500 * sd + c → gi N 52 j = gi M 52 j ∧ gi N 53 j = gi M 53 j) (hv : VL M sd c i) : VL N sd c i ∧ ∀ e, xl N sd i e = xl M sd i e := by
  have e47 := h 47 (by decide) (by decide)
  have e48 := h 48 (by decide) (by decide)
  have e49 := h 49 (by decide) (by decide)
  have e50 := h 50 (by decide) (by decide)
  unfold VL xl
  rw [e47, e48, e49, e50]
  rcases hv with hv | ⟨hv, lo, mid, hi, v1, v2, v3, v4, v5, v6, v7, v8, v9, v10, v11⟩
  · refine ⟨Or.inl hv, fun e => ?_⟩
    rcases hv with hv | hv
    · rw [if_pos hv, if_pos hv]
    · rw [if_neg (by omega), if_pos hv, if_neg (by omega), if_pos hv]
  · have k1 : ∀ j, j < mid - lo → gi N 52 (lo + j) = gi M 52 (lo + j) ∧ gi N 53 (lo + j) = gi M 53 (lo + j) := fun j hj => hc _ (by omega) (by omega)
    have k2 : ∀ j, j < hi - mid → gi N 52 (mid + j) = gi M 52 (mid + j) ∧ gi N 53 (mid + j) = gi M 53 (mid + j) := fun j hj => hc _ (by omega) (by omega)
    refine ⟨Or.inr ⟨hv, lo, mid, hi, v1, v2, v3, v4, v5, v6, v7, gM_eq k1 v8, gM_eq k2 v9, fun e => by rw [rM_eq _ k1 e]; exact v10 e, fun e => by rw [rM_eq _ k2 e]; exact v11 e⟩, fun e => ?_⟩
    rw [v1, v2, v3]
    simp only [Int.toNat_natCast]
    rw [rM_eq _ k1 e, rM_eq _ k2 e]
theorem MRU_g {M N : mM} {sd R c : Nat} {me : Nat → Env → Int} {mt : Nat → Int} (h45 : ∀ r, r ≤ R → gi N 45 (21 * sd + r) = gi M 45 (21 * sd + r)) (h44 : ∀ r, r < R → gi N 44 (20 * sd + r) = gi M 44 (20 * sd + r)) (hl : ∀ a i, 47 ≤ a → a ≤ 51 → i < fr M sd R → gi N a (400 * sd + i) = gi M a (400 * sd + i)) (hc : ∀ j, 500 * sd ≤ j → j < 500 * sd + c → gi N 52 j = gi M 52 j ∧ gi N 53 j = gi M 53 j) (h : MRU M sd R me mt c) : MRU N sd R me mt c := by
  have ef : ∀ r, r ≤ R → fr N sd r = fr M sd r := fun r hr => by unfold fr; rw [h45 r hr]
  refine ⟨fun r hr => by rw [h45 r hr]; exact h.1 r hr, fun r hr => ?_⟩
  obtain ⟨a1, a2, a3, a4⟩ := h.2 r hr
  have m := fr_mono h (R - (r + 1)) (r + 1) (by omega)
  have key : ∀ i, fr M sd r ≤ i → i < fr M sd (r + 1) → VL N sd c i ∧ ∀ e, xl N sd i e = xl M sd i e := fun i h1 h2 => VL_g (fun a ha hb => hl a i ha hb (by omega)) hc (a3 i h1 h2)
  rw [ef r (by omega), ef (r + 1) (by omega), h44 r hr]
  refine ⟨a1, a2, fun i h1 h2 => (key i h1 h2).1, fun e he => ?_⟩
  rw [hfo_f (fr M sd (r + 1) - fr M sd r) (fun i h1 h2 => ⟨hl 51 i (by decide) (by decide) (by omega), (key i h1 (by omega)).2⟩) e]
  exact a4 e he
/-- the rules at hand of the reference stay while the other side is read -/
theorem MRU_side {M N : mM} {sd sd' R c : Nat} {me : Nat → Env → Int} {mt : Nat → Int} (h : YF (rdM sd') M N) (hs : sd ≤ 1) (hs' : sd' = 1 - sd) (hR : R ≤ 20) (hc : c ≤ 400) (hf : fr M sd R ≤ 400) (hM : MRU M sd R me mt c) : MRU N sd R me mt c ∧ fr N sd R ≤ 400 ∧ gi N 43 sd = gi M 43 sd := by
  have o : ∀ a i, ¬ rdM sd' a i → gi N a i = gi M a i := h.2
  have e45 : ∀ r, r ≤ R → gi N 45 (21 * sd + r) = gi M 45 (21 * sd + r) := fun r hr => o _ _ (by unfold rdM rmS cutS; omega)
  refine ⟨MRU_g e45 (fun r hr => o _ _ (by unfold rdM rmS cutS; omega)) (fun a i h1 h2 h3 => o _ _ (by unfold rdM rmS cutS; omega)) (fun j h1 h2 => ⟨o _ _ (by unfold rdM rmS cutS; omega), o _ _ (by unfold rdM rmS cutS; omega)⟩) hM, ?_, o _ _ (by unfold rdM rmS cutS; omega)⟩
  unfold fr at hf ⊢
  rw [e45 R (Nat.le_refl R)]
  exact hf
theorem rd_o {sd a i : Nat} (h : a ≤ 34 ∨ 55 ≤ a ∨ a = 36 ∨ a = 42 ∨ (a = 35 ∧ (i = 34 ∨ i = 35 ∨ i = 37 ∨ (46 ≤ i ∧ i ≤ 64)))) : ¬ rdM sd a i := by
  unfold rdM rmS cutS
  omega
theorem cp_o {u a i : Nat} (hu : u = 21 ∨ u = 26) (h : a ≤ 15 ∨ a = 17 ∨ a = 20 ∨ 31 ≤ a) : ¬ cpS u a i := by
  unfold cpS rdS tpS
  omega
theorem cp_u {u u' a i : Nat} (h : (u' = 21 ∧ u = 26) ∨ (u' = 26 ∧ u = 21)) (h1 : u' ≤ a) (h2 : a ≤ u' + 3) : ¬ cpS u a i := by
  unfold cpS rdS tpS
  omega
theorem le34 {u a : Nat} (hu : u = 21 ∨ u = 26) (h : a ≤ u + 3) : a ≤ 34 := by omega
theorem ne16 {u a i : Nat} (hu : u = 21 ∨ u = 26) (h : u ≤ a) : ¬ (a = 16 ∧ i = 0) := by omega
theorem sd_1 {sd : Nat} (h : sd ≤ 1) : 1 - sd ≤ 1 := by omega
theorem sd_2 {sd : Nat} (h : sd ≤ 1) : ((1 - (1 - sd) : Nat) : Int) = sd := by omega
theorem uu_sw {u u' : Nat} (h : (u' = 21 ∧ u = 26) ∨ (u' = 26 ∧ u = 21)) : (u = 21 ∧ u' = 26) ∨ (u = 26 ∧ u' = 21) := by omega
theorem u_rg {u a : Nat} (hu : u = 21 ∨ u = 26) (h1 : u ≤ a) (h2 : a ≤ u + 3) : 21 ≤ a ∧ a ≤ 30 := by omega
theorem p_read : PAIR 104 139 [] := fun M hI => by
  have h := hI.1.1
  have h88 := h.2.2.2
  obtain ⟨⟨k1, k2, k3⟩, k4⟩ := hI.2.1
  have kb := hI.2.2.1
  have ky := hI.2.2.2.2.1
  have pl := hI.2.2.2.2.2
  obtain ⟨u', u, sd, Ru, c0, me, mt, w5, w6, wu, wsd, w18, wu0, wR, wRU, w43, wc, wM, wfr, wmt⟩ := hI.2.2.2.1
  obtain ⟨i1, i2, i3, i4, i5, i6, i7, i8, i9⟩ := hI.1.2.1
  have hu : u = 21 ∨ u = 26 := by omega
  have hu' : u' = 21 ∨ u' = 26 := by omega
  obtain ⟨sz, hsz⟩ : ∃ s : Nat, gi M 16 0 = s := ⟨(gi M 16 0).toNat, by omega⟩
  refine x_read (d := 12) (B := gi M 17) (sz := sz) h w5 w6 hu hu' hsz (by omega) rfl (fun N k hfin yN n0 n1 hok => ⟨_, rfl, ?_⟩)
  -- the class's memory, in one form for both cases
  let N1 : mM := if rsF (gi M 17) sz k = 0 then sr (sr (si N 16 0 0) 0 5 (some u)) 0 6 (some u') else si N 16 0 0
  have gN1 : ∀ a i, gi N1 a i = gi (si N 16 0 0) a i := fun a i => by
    show gi (if rsF (gi M 17) sz k = 0 then sr (sr (si N 16 0 0) 0 5 (some u)) 0 6 (some u') else si N 16 0 0) a i = _
    split <;> rfl
  have kN1 : ∀ a, kd N1 a = kd M a := fun a => by
    show kd (if rsF (gi M 17) sz k = 0 then sr (sr (si N 16 0 0) 0 5 (some u)) 0 6 (some u') else si N 16 0 0) a = _
    split
    · exact YF_k yN a
    · exact YF_k yN a
  have nN1 : nx N1 = nx M := by
    show nx (if rsF (gi M 17) sz k = 0 then sr (sr (si N 16 0 0) 0 5 (some u)) 0 6 (some u') else si N 16 0 0) = _
    split
    · exact (YF_n yN : nx N = nx M)
    · exact (YF_n yN : nx N = nx M)
  have zN1 : zs N1 = zs M := by
    show zs (if rsF (gi M 17) sz k = 0 then sr (sr (si N 16 0 0) 0 5 (some u)) 0 6 (some u') else si N 16 0 0) = _
    split
    · exact (DF_z (YF_DFk yN) : zs N = zs M)
    · exact (DF_z (YF_DFk yN) : zs N = zs M)
  have rN1 : ∀ a i, ¬ (a = 0 ∧ (i = 5 ∨ i = 6)) → gr N1 a i = gr M a i := fun a i w => by
    show gr (if rsF (gi M 17) sz k = 0 then sr (sr (si N 16 0 0) 0 5 (some u)) 0 6 (some u') else si N 16 0 0) a i = _
    split
    · rw [gr_sr, if_neg (by omega), gr_sr, if_neg (by omega)]
      exact YF_r yN a i
    · exact YF_r yN a i
  have sh1 : SH N1 := by
    have s0 : SH (si N 16 0 0) := (YF_SH yN h : SH N)
    show SH (if rsF (gi M 17) sz k = 0 then sr (sr (si N 16 0 0) 0 5 (some u)) 0 6 (some u') else si N 16 0 0)
    split
    · obtain ⟨s1, s2, s3, s4⟩ := s0
      refine ⟨s1, s2, fun q hq => ?_, s4⟩
      have q1 : ¬ (q.1 = 0 ∧ q.2.1 = 6) := (by decide : ∀ q ∈ rfT, ¬ (q.1 = 0 ∧ q.2.1 = 6)) q hq
      have q2 : ¬ (q.1 = 0 ∧ q.2.1 = 5) := (by decide : ∀ q ∈ rfT, ¬ (q.1 = 0 ∧ q.2.1 = 5)) q hq
      rw [gr_sr, if_neg q1, gr_sr, if_neg q2]
      exact s3 q hq
    · exact s0
  have oN : ∀ a i, ¬ cpS u a i → gi N a i = gi M a i := yN.2
  have o1 : ∀ a i, ¬ cpS u a i → ¬ (a = 16 ∧ i = 0) → gi N1 a i = gi M a i := fun a i w1 w2 => by
    rw [gN1, gi_si, if_neg w2]
    exact oN a i w1
  have s18 : gi N1 35 18 = ((1 - (1 - sd) : Nat) : Int) := by rw [o1 35 18 (by unfold cpS rdS tpS; omega) (by omega), w18]; omega
  refine y_read (d := 12) (M := N1) (sz := sz) (B := gi M 17) (sd := 1 - sd) sh1 (by rw [o1 35 2 (by unfold cpS rdS tpS; omega) (by omega), k3]; exact hsz) (by omega) (fun i hi => by rw [o1 36 i (by unfold cpS rdS tpS; omega) (by omega)]; exact k4 i (by omega)) (fun i hi => kb i (by omega)) (fun j hj => by rw [o1 42 j (by unfold cpS rdS tpS; omega) (by omega)]; exact ky j hj) s18 (by omega) (fun P k' hfin' yP p2 p17 pok pno => ?_)
  have ek : k' = k := fin_1 hfin' hfin
  subst ek
  have oP : ∀ a i, ¬ rdM (1 - sd) a i → gi P a i = gi N1 a i := yP.2
  have oM : ∀ a i, ¬ rdM (1 - sd) a i → ¬ cpS u a i → ¬ (a = 16 ∧ i = 0) → gi P a i = gi M a i := fun a i w1 w2 w3 => by rw [oP a i w1, o1 a i w2 w3]
  have e181 : gi P 18 1 = rsP (gi M 17) sz k' := by rw [oP 18 1 (by unfold rdM rmS cutS; omega), gN1, gi_na (by decide)]; exact n1
  have g160 : gi P 16 0 = 0 := by rw [oP 16 0 (by unfold rdM rmS cutS; omega), gN1, gi_same]
  have low : ∀ a i, a ≤ 15 → gi P a i = gi M a i := fun a i w => oM a i (rd_o (Or.inl (Nat.le_trans w (by decide)))) (cp_o hu (Or.inl w)) (fun v => by rw [v.1] at w; exact absurd w (by decide))
  have e20 : ∀ i, gi P 20 i = gi M 20 i := fun i => oM 20 i (rd_o (Or.inl (by decide))) (cp_o hu (Or.inr (Or.inr (Or.inl rfl)))) (fun v => absurd v.1 (by decide))
  have e35 : ∀ i, i = 34 ∨ i = 35 ∨ i = 37 ∨ (46 ≤ i ∧ i ≤ 64) → gi P 35 i = gi M 35 i := fun i w => oM 35 i (rd_o (Or.inr (Or.inr (Or.inr (Or.inr ⟨rfl, w⟩))))) (cp_o hu (Or.inr (Or.inr (Or.inr (by decide))))) (fun v => absurd v.1 (by decide))
  have hi : ∀ a i, 55 ≤ a → gi P a i = gi M a i := fun a i w => oM a i (rd_o (Or.inr (Or.inl w))) (cp_o hu (Or.inr (Or.inr (Or.inr (Nat.le_trans (by decide) w))))) (fun v => by rw [v.1] at w; exact absurd w (by decide))
  have hI1 : I1 P := by
    unfold I1
    rw [low 1 0 (by decide), low 1 1 (by decide), low 1 2 (by decide), e20, e20, e20, e20, e20, e35 34 (by omega), e35 35 (by omega), e35 37 (by omega), e35 46 (by omega), e35 47 (by omega), e35 48 (by omega), e35 49 (by omega), e35 50 (by omega), p17, e181]
    exact ⟨i1, i2, i3, i4, i5, i6, i7, i8, rfl⟩
  clear i1 i2 i3 i4 i5 i6 i7 i8 i9 n0 n1 e181 p17 k4 kb s18 k1 k2 hsz
  refine ⟨rfl, ⟨?_, ?_⟩, ?_⟩
  · refine TI_c3 (M := M) (YF_SH yP sh1) hI1 (fun a _ => by rw [YF_k yP]; exact kN1 a) (by rw [YF_n yP, nN1]; exact Nat.le_refl _) (fun a i ha w => ?_) (fun a i ha w => ?_) hI.1
    · rw [YF_r yP, rN1 a i]
      rintro ⟨rfl, -⟩
      have := (kd_267 h (a := 0) (by decide)).1
      unfold toldR at w
      omega
    · by_cases y : a < 88
      · have := kd_267 h y
        unfold toldH isRow at w
        by_cases y2 : a ≤ 15
        · exact low a i y2
        · by_cases y3 : 55 ≤ a
          · exact hi a i y3
          · have : a = 35 ∧ (i = 34 ∨ i = 35 ∨ i = 37 ∨ i = 51 ∨ i = 55) := by omega
            rw [this.1]
            exact e35 i (by omega)
      · exact hi a i (by omega)
  · refine ⟨⟨⟨by rw [g160]; omega, by rw [g160]; omega, by rw [g160]; exact p2⟩, fun i hi' => by rw [g160] at hi'; omega⟩, fun i hi' => by rw [g160] at hi'; omega, ?_, fun j hj => by rw [oM 42 j (rd_o (Or.inr (Or.inr (Or.inr (Or.inl rfl))))) (cp_o hu (Or.inr (Or.inr (Or.inr (by decide))))) (fun v => absurd v.1 (by decide))]; exact ky j hj, PLI_f (M := M) (fun a _ => by rw [YF_k yP]; exact kN1 a) (by rw [YF_n yP, nN1]; exact Nat.le_refl _) (fun a i w => by rw [YF_r yP, rN1 a i (by omega)]) (fun i w => by rw [YF_r yP, rN1 0 i (by omega)]) (fun a i w => ?_) (fun a i w _ _ => hi a i (by omega)) pl⟩
    · by_cases z : rsF (gi M 17) sz k' = 0
      · -- the new text is in place
        obtain ⟨x1, x2⟩ := hok z
        obtain ⟨y1, y2, c, y3, y4, y5⟩ := pok z
        have okk := hfin.1
        have oPu : ∀ a i, 21 ≤ a → a ≤ 30 → gi P a i = gi N a i := fun a i w1 w2 => by rw [oP a i (by unfold rdM rmS cutS; omega), gN1, gi_na (by omega)]
        have g05 : gr P 0 5 = some u := by
          rw [YF_r yP]
          show gr (if rsF (gi M 17) sz k' = 0 then sr (sr (si N 16 0 0) 0 5 (some u)) 0 6 (some u') else si N 16 0 0) 0 5 = _
          rw [if_pos z, gr_ni (by decide), gr_same]
        have g06 : gr P 0 6 = some u' := by
          rw [YF_r yP]
          show gr (if rsF (gi M 17) sz k' = 0 then sr (sr (si N 16 0 0) 0 5 (some u)) 0 6 (some u') else si N 16 0 0) 0 6 = _
          rw [if_pos z, gr_same]
        exact ⟨u, u', 1 - sd, sgR (sg (gi M 17) sz k'), c, sgM (sg (gi M 17) sz k'), sgA (sg (gi M 17) sz k'), g05, g06, uu_sw wu, sd_1 wsd, y1, by rw [oPu u 0 (u_rg hu (Nat.le_refl u) (Nat.le_add_right u 3)).1 (u_rg hu (Nat.le_refl u) (Nat.le_add_right u 3)).2]; exact x1, sg_R okk, RU_f (M := N) (fun i => oPu _ i (u_rg hu (Nat.le_add_right u 2) (Nat.add_le_add_left (by decide) u)).1 (u_rg hu (Nat.le_add_right u 2) (Nat.add_le_add_left (by decide) u)).2) (fun i => oPu _ i (u_rg hu (Nat.le_add_right u 3) (Nat.le_refl _)).1 (u_rg hu (Nat.le_add_right u 3) (Nat.le_refl _)).2) (fun i _ => oPu _ i (u_rg hu (Nat.le_add_right u 1) (Nat.add_le_add_left (by decide) u)).1 (u_rg hu (Nat.le_add_right u 1) (Nat.add_le_add_left (by decide) u)).2) x2, y2, y3, y4, y5, fun r _ => (sg_am k' okk).2 r⟩
      · -- the text ahead stays
        have oPu : ∀ a i, u' ≤ a → a ≤ u' + 3 → gi P a i = gi M a i := fun a i w1 w2 => oM a i (rd_o (Or.inl (le34 hu' w2))) (cp_u wu w1 w2) (ne16 hu' w1)
        have g0 : ∀ i, gr P 0 i = gr M 0 i := fun i => by
          rw [YF_r yP]
          show gr (if rsF (gi M 17) sz k' = 0 then sr (sr (si N 16 0 0) 0 5 (some u)) 0 6 (some u') else si N 16 0 0) 0 i = _
          rw [if_neg z]
          exact YF_r yN 0 i
        have m1 : MRU N1 sd Ru me mt c0 := MRU_f (fun r _ => o1 _ _ (by unfold cpS rdS tpS; omega) (by omega)) (fun r _ => o1 _ _ (by unfold cpS rdS tpS; omega) (by omega)) (fun a i q1 q2 _ => o1 _ _ (by unfold cpS rdS tpS; omega) (by omega)) (fun j _ => ⟨o1 _ _ (by unfold cpS rdS tpS; omega) (by omega), o1 _ _ (by unfold cpS rdS tpS; omega) (by omega)⟩) (Nat.le_refl _) wM
        have f1 : fr N1 sd Ru ≤ 400 := by
          unfold fr at wfr ⊢
          rw [o1 _ _ (by unfold cpS rdS tpS; omega) (by omega)]
          exact wfr
        obtain ⟨m2, m3, m4⟩ := MRU_side yP wsd rfl wR wc f1 m1
        have p18 := pno z
        exact ⟨u', u, sd, Ru, c0, me, mt, by rw [g0]; exact w5, by rw [g0]; exact w6, wu, wsd, by rw [p18]; exact sd_2 wsd, by rw [oPu u' 0 (Nat.le_refl u') (Nat.le_add_right u' 3)]; exact wu0, wR, RU_f (fun i => oPu _ i (Nat.le_add_right u' 2) (Nat.add_le_add_left (by decide) u')) (fun i => oPu _ i (Nat.le_add_right u' 3) (Nat.le_refl _)) (fun i _ => oPu _ i (Nat.le_add_right u' 1) (Nat.add_le_add_left (by decide) u')) wRU, by rw [m4, o1 43 sd (by unfold cpS rdS tpS; omega) (by omega)]; exact w43, wc, m2, m3, wmt⟩
    · rcases w with w | w | w | w
      · rw [w]; exact oM 31 i (rd_o (Or.inl (by decide))) (cp_o hu (Or.inr (Or.inr (Or.inr (by decide))))) (fun v => absurd v.1 (by decide))
      · rw [w]; exact oM 33 i (rd_o (Or.inl (by decide))) (cp_o hu (Or.inr (Or.inr (Or.inr (by decide))))) (fun v => absurd v.1 (by decide))
      · rw [w.1]; exact e35 i (by omega)
      · exact hi a i (by omega)
  · have z1 := YF_n yP
    have z2 : zs P = zs N1 := DF_z (YF_DFk yP)
    unfold GROW
    omega
