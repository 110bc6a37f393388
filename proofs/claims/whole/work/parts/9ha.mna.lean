/-! ===== new int[n][w] ===== -/
theorem mOuter (c : ClassId) (N h0 : Nat) : ∀ i : Nat, Jvm.Free.Multi.outerC c N h0 i = arrV c N (fun j => va_rf (if j < i then some (h0 + 1 + j) else none))
  | 0 => by
    show ({ cls := c, slots := Array.replicate N .null, vm := .none } : Cell) = _
    rw [arrV_new]
    congr 1
  | i + 1 => by
    show (Jvm.Free.Multi.outerC c N h0 i).setSlot i (.ref (h0 + 1 + i)) = _
    rw [mOuter c N h0 i, arrV_store]
    congr 1
    funext j
    unfold updV
    by_cases hj : j = i
    · rw [if_pos hj, if_pos (by omega), hj]
      rfl
    · rw [if_neg hj]
      show va_rf (if j < i then some (h0 + 1 + j) else none) = _
      by_cases h2 : j < i
      · rw [if_pos h2, if_pos (by omega)]
      · rw [if_neg h2, if_neg (by omega)]
theorem mEn_al2 {G : mG} {M : mM} {n w b : Nat} (h : b < nx M) : mEn G (al2 M n w) b = mEn G M b :=
  mEn_cong (by rw [kd_al2, if_neg (by omega), if_neg (by omega)]) (by rw [ln_al2, if_neg (by omega), if_neg (by omega)]) (fun j => by rw [gi_al2, if_neg (by omega)]) (fun j => by rw [gr_al2, if_neg (by omega), if_neg (by omega)])
theorem wf_al2 {M : mM} {n w : Nat} (h : mWf M) (hn : n ≤ 1000) (hw : w ≤ 1000) : mWf (al2 M n w) := by
  obtain ⟨h1, h2, h3, h4⟩ := h
  refine ⟨fun a ha => ?_, fun a i hk => ?_, fun a i hk => ?_, fun a => ?_⟩
  · rw [nx_al2] at ha
    rw [kd_al2, if_neg (by omega), if_neg (by omega)]
    exact h1 a (by omega)
  · rw [gi_al2]
    by_cases hr : nx M ≤ a ∧ a ≤ nx M + n
    · rw [if_pos hr]
      exact inR_0
    · rw [if_neg hr]
      rw [kd_al2, if_neg (by omega), if_neg hr] at hk
      exact h2 a i hk
  · rw [gi_al2]
    by_cases hr : nx M ≤ a ∧ a ≤ nx M + n
    · rw [if_pos hr]
      exact ⟨by decide, by decide⟩
    · rw [if_neg hr]
      rw [kd_al2, if_neg (by omega), if_neg hr] at hk
      exact h3 a i hk
  · rw [ln_al2]
    split
    · omega
    · split
      · omega
      · exact h4 a
theorem kt_70 : Cond.classLink "GuideDesk$Day" (21 : Nat) "[[I" ∈ TB := TB_of (sub_1 _ (List.mem_of_getElem? (i := 70) rfl)) rfl
theorem sn_mna_at : mSnd mInf iX1_init 25 (o_mna 29) := by
  refine sn_mem (n := 29) fun CC ls st M r h => ?_
  obtain ⟨x, y, st', rfl, h0, h1, h2, h3, h4⟩ := h
  refine ⟨_, _, h4, fun hok => ?_⟩
  have hyR : inR y := hok.2.1 (vi y) List.mem_cons_self
  have hxR : inR x := hok.2.1 (vi x) (List.mem_cons_of_mem _ List.mem_cons_self)
  refine ⟨wf_al2 hok.1 (by omega) (by omega), fun v hv => ?_, by rw [nx_al2]; omega, by rw [zs_al2]; omega, ?_⟩
  · rcases List.mem_cons.mp hv with rfl | hv
    · trivial
    · exact hok.2.1 v (List.mem_cons_of_mem _ (List.mem_cons_of_mem _ hv))
  · intro p l e R s m args below meth cd Q G d H locs lm cells slots hx hP hzz hS hlm hb1 hb2 hw2
    have hts := hx.2.2.2.2.2.2.1
    have hK := hx.2.2.2.2.2.2.2.1
    generalize hN : x.toNat = N at *
    generalize hV : y.toNat = V at *
    have eN : nx (al2 M N V) - nx M = 1 + N := by rw [nx_al2]; omega
    have eV : zs (al2 M N V) - zs M = N + N * V := by rw [zs_al2]; omega
    rw [eN, eV] at hw2
    rw [eN] at hb1
    rw [eV] at hb2
    intro T hT Xs
    obtain ⟨vm₁, cA, comp, -, fA, fC, hO, -, X', step⟩ := Xs.multianewarray2F (own := "GuideDesk$Day") (index := 21) (ty := .int) (n := Int32.ofInt x) (k := Int32.ofInt y) (rest := st'.map (tv G)) hx.1 hx.2.2.2.2.2.1 (hts _ kt_70) hK.2.2.2.1 (hts _ kt_99) (g := F0 m 25 lm ((vi y :: vi x :: st').map (tv G))) rfl (by rw [hx.2.1]; exact dX1_init_25) rfl (by rw [i32_z, i32_lt hxR inR_0]; omega) (by rw [i32_z, i32_lt hyR inR_0]; omega) (by rw [i32_nat hxR]; omega) (by rw [i32_nat hyR]; show y.toNat * 4 ≤ _; omega) (by rw [i32_nat hyR]; omega) rfl rfl (by rw [i32_nat hxR, hN]; exact hb1) (by rw [i32_nat hxR, i32_nat hyR, hN, hV]; exact hb2)
    rw [i32_nat hxR, i32_nat hyR, hN, hV] at X' step
    have ec : comp = G.2.2 14 := Option.some.inj (fC.symm.trans (hK.1.2 1 _ rfl).2)
    have ea : cA = G.2.2 21 := Option.some.inj (fA.symm.trans (hK.1.2 8 _ rfl).2)
    subst ec
    subst ea
    obtain ⟨f1, f2, -, -⟩ := Jvm.Free.Multi.fill_facts (T.setVm vm₁) (G.2.2 21) (G.2.2 14) N V (defaultValue .int) N
    have hold := fun (q : Nat) (hq : q < (T.setVm vm₁).heap.size) => Jvm.Free.Multi.fill_old (T.setVm vm₁) (G.2.2 21) (G.2.2 14) N V (defaultValue .int) (a := q) hq N
    have hrow := Jvm.Free.Multi.fill_inner (T.setVm vm₁) (G.2.2 21) (G.2.2 14) N V (defaultValue .int) N
    generalize Jvm.Free.Multi.fill (T.setVm vm₁) (G.2.2 21) (G.2.2 14) N V (defaultValue .int) N = F at X' step f1 f2 hold hrow
    have hTh : (T.setVm vm₁).heap = H := hT
    rw [hTh] at f1 f2 hold hrow
    rw [mOuter] at f2
    have hT2 : T.heap.size = G.1 + nx M := by rw [hT]; exact hzz
    have hPF : va_P G.2.1 vwCl (mPl G (al2 M N V)) F.heap := by
      intro k q hk
      obtain ⟨hl, rfl⟩ := mPl_inv hk
      rw [nx_al2] at hl
      rcases Nat.lt_or_ge k (nx M) with w | w
      · rw [mEn_al2 w]
        exact (hP k _ (mPl_get w)).kept (hold _ (by show G.1 + k < H.size; omega))
      · rcases Nat.lt_or_ge (nx M) k with w2 | w2
        · rw [mEn_i (k := 14) (by rw [kd_al2, if_neg (by omega), if_pos (by omega)]) (by omega)]
          show F.heap[G.1 + k]? = some (vp_cell _ _)
          rw [vp_cell_i, show G.1 + k = H.size + 1 + (k - nx M - 1) by omega, hrow _ (by omega), ln_al2, if_neg (by omega), if_pos (by omega)]
          congr 1
          show ({ cls := G.2.2 14, slots := Array.replicate V (.int 0), vm := .none } : Cell) = _
          rw [arrV_new]
          congr 1
          funext j
          rw [gi_al2, if_pos (by omega)]
          rfl
        · have ek : k = nx M := by omega
          subst ek
          rw [mEn_r (k := 21) (by rw [kd_al2, if_pos rfl]) (by omega)]
          show F.heap[G.1 + nx M]? = some (vp_cell _ _)
          rw [vp_cell_q, ← hzz, f2, ln_al2, if_pos rfl]
          congr 2
          funext j
          rw [gr_al2, if_pos rfl, hzz]
          by_cases hj : j < N
          · rw [if_pos hj, if_pos hj]
            show Value.ref _ = Value.ref _
            congr 1
            show G.1 + nx M + 1 + j = G.1 + (nx M + 1 + j)
            omega
          · rw [if_neg hj, if_neg hj]
            rfl
    obtain ⟨t, a1, b1⟩ := hw2 F.heap locs hPF (by rw [nx_al2]; omega) ⟨Nat.le_trans hS.1 (by omega), fun q q1 q2 => (hold q (by have := hS.1; omega)).trans (hS.2.1 q q1 q2), hS.2.2⟩ F rfl (by rw [show cells + (1 + N) = cells + 1 + N by omega, show slots + (N + N * V) = slots + N + N * V by omega]; exact X')
    rw [hT2] at step
    exact ⟨t, step t a1, b1⟩
