theorem wf_sw {M : mM} {a : Nat} {f : Nat → Int} (h : mWf M) (hk : kd M a ≠ 15) (hf : ∀ j, inR (f j)) : mWf (sw M a f) := by
  refine ⟨h.1, fun b j hb => ?_, fun b j hb => ?_, h.2.2.2⟩
  · rw [gi_sw]
    split
    · exact hf j
    · exact h.2.1 b j hb
  · rw [gi_sw]
    split
    · rename_i q
      rw [q] at hb
      exact absurd hb hk
    · exact h.2.2.1 b j hb
theorem sn_copy {F : mF} {I : mI} {pc n idx : Nat} (h1 : Cond.methodLink I.1 idx arraycopyName ∈ TB) (h2 : Cond.native arraycopyName ∈ TB) (h3 : Cond.static arraycopyName ∈ TB) (h4 : Cond.initialized "java/lang/System" ∈ TB) (hd : decode I.2.1 pc = .ok (.invokestatic idx, 3)) (hn : pc + 3 = n) : mSnd F I pc (o_copy n) := by
  subst hn
  refine sn_mem0 (n := pc + 3) fun CC ls st M r h => ?_
  obtain ⟨a, b, i, j, k, st', rfl, hka, hkb, g1, g2, g3, g4, g5, g6, hcat, h9⟩ := h
  refine ⟨_, _, h9, fun hok => ?_⟩
  have hkr : inR k := hok.2.1 (vi k) List.mem_cons_self
  have hjr : inR j := hok.2.1 (vi j) (List.mem_cons_of_mem _ List.mem_cons_self)
  have hir : inR i := hok.2.1 (vi i) (List.mem_cons_of_mem _ (List.mem_cons_of_mem _ (List.mem_cons_of_mem _ List.mem_cons_self)))
  have ha : a < nx M := mLt hok.1 hka (by omega)
  have hb : b < nx M := mLt hok.1 hkb (by omega)
  refine ⟨wf_sw hok.1 (by omega) (fun q => ?_), fun v hv => hok.2.1 v (List.mem_cons_of_mem _ (List.mem_cons_of_mem _ (List.mem_cons_of_mem _ (List.mem_cons_of_mem _ (List.mem_cons_of_mem _ hv))))), rfl, rfl, ?_⟩
  · split
    · exact hok.1.2.1 a _ (by omega)
    · exact hok.1.2.1 b _ (by omega)
  intro p l e R s m args below meth cd Q G d H locs lm cells slots hx hP hzz hS hlm hw
  have hts := hx.2.2.2.2.2.2.1
  have hr1 := hx.2.2.2.2.2.2.2.2.2.1
  have hr2 := hx.2.2.2.2.2.2.2.2.2.2.1
  have hK := hx.2.2.2.2.2.2.2.1.1
  have hcat' := tv_cats G st'
  generalize hsp : Int32.ofInt i = sp
  generalize hdp : Int32.ofInt j = dp
  generalize hnn : Int32.ofInt k = nn
  have esp : sp.toNatClampNeg = i.toNat := by rw [← hsp]; exact i32_nat hir
  have edp : dp.toNatClampNeg = j.toNat := by rw [← hdp]; exact i32_nat hjr
  have enn : nn.toNatClampNeg = k.toNat := by rw [← hnn]; exact i32_nat hkr
  have tsp : sp.toInt = i := by rw [← hsp]; exact i32 hir
  have tdp : dp.toInt = j := by rw [← hdp]; exact i32 hjr
  have tnn : nn.toInt = k := by rw [← hnn]; exact i32 hkr
  have lsp : ¬ sp < 0 := by rw [← hsp, i32_z, i32_lt hir inR_0]; omega
  have ldp : ¬ dp < 0 := by rw [← hdp, i32_z, i32_lt hjr inR_0]; omega
  have lnn : ¬ nn < 0 := by rw [← hnn, i32_z, i32_lt hkr inR_0]; omega
  have hc0 : H[G.1 + a]? = some (vp_cell (G.2.2 14) (ln M a, .inl (fun q => Int32.ofInt (gi M a q)))) := hP a (G.1 + a, .inl (G.2.2 14, ln M a, .inl (fun q => Int32.ofInt (gi M a q)))) (by rw [mPl_get ha, mEn_i hka (by omega)])
  have hc1 : H[G.1 + b]? = some (vp_cell (G.2.2 14) (ln M b, .inl (fun q => Int32.ofInt (gi M b q)))) := hP b (G.1 + b, .inl (G.2.2 14, ln M b, .inl (fun q => Int32.ofInt (gi M b q)))) (by rw [mPl_get hb, mEn_i hkb (by omega)])
  obtain ⟨-, k0, hk0, cm0, hkk0⟩ := (hK.2 1 _ rfl).1 (ln M a) (fun q => .int (Int32.ofInt (gi M a q)))
  intro T hT X
  obtain ⟨vm', X', step⟩ := X.arraycopy hx.1 hx.2.2.2.2.2.1 (hts _ h1) (hts _ h2) (hts _ h3) (hts _ h4) (src := G.1 + a) (dst := G.1 + b) (cs := vp_cell (G.2.2 14) (ln M a, .inl (fun q => Int32.ofInt (gi M a q)))) (cd := vp_cell (G.2.2 14) (ln M b, .inl (fun q => Int32.ofInt (gi M b q)))) (srcPos := sp) (destPos := dp) (n := nn) (by rw [hT]; exact hc0) (by rw [hT]; exact hc1)
    (fun _ h => by cases h) (fun _ h => by cases h) (fun h => by cases h) (fun h => by cases h) hk0 hk0 hkk0 hkk0 (by simp [refKind]) lsp ldp lnn
    (by rw [tsp, tnn]; show ¬ _ > ((arrV _ (ln M a) _).slots.size : Int); rw [arrV_size]; omega)
    (by rw [tdp, tnn]; show ¬ _ > ((arrV _ (ln M b) _).slots.size : Int); rw [arrV_size]; omega)
    (fun vm₁ _ q hq => by
      have e : (vp_cell (G.2.2 14) (ln M a, .inl (fun q => Int32.ofInt (gi M a q)))).slots.getD (sp.toNatClampNeg + q) .null = .int (Int32.ofInt (gi M a (sp.toNatClampNeg + q))) := by
        show (arrV _ (ln M a) (fun q => .int (Int32.ofInt (gi M a q)))).slots.getD _ _ = _
        rw [Array.getD_eq_getD_getElem?, arrV_read _ _ (by omega)]
        rfl
      refine ⟨?_, ?_⟩
      · rw [e]
        rfl
      · rw [e]
        exact trivial)
    (g := F0 m pc lm (.int nn :: .int dp :: .ref (G.1 + b) :: .int sp :: .ref (G.1 + a) :: st'.map (tv G))) rfl (by rw [hx.2.2.1, ← hok.2.2.2]; exact hlm) (rest := st'.map (tv G)) rfl (by rw [hx.2.1]; exact hd) (by omega) (by
      have h16 : nativeFrameWords "java/lang/System" "arraycopy" 5 + 11 ≤ 40 := by decide +kernel
      show 2 * 0 + _ + _ ≤ _
      omega)
  have e1 : copied (vp_cell (G.2.2 14) (ln M a, .inl (fun q => Int32.ofInt (gi M a q)))) (vp_cell (G.2.2 14) (ln M b, .inl (fun q => Int32.ofInt (gi M b q)))) sp dp nn = vp_cell (G.2.2 14) (ln M b, .inl (va_cpy (fun q => Int32.ofInt (gi M a q)) (fun q => Int32.ofInt (gi M b q)) sp.toNatClampNeg dp.toNatClampNeg nn.toNatClampNeg)) := va_copied (fun z => .int z) (G.2.2 14) (G.2.2 14) (fun q => Int32.ofInt (gi M a q)) (fun q => Int32.ofInt (gi M b q)) (by omega)
  have e2 : va_cpy (fun q => Int32.ofInt (gi M a q)) (fun q => Int32.ofInt (gi M b q)) sp.toNatClampNeg dp.toNatClampNeg nn.toNatClampNeg = fun q => Int32.ofInt (gi (sw M b (fun q => if j ≤ q ∧ q < j + k then gi M a (i + (q - j)).toNat else gi M b q)) b q) := by
    funext q
    rw [gi_sw, if_pos rfl, esp, edp, enn]
    by_cases hq : j ≤ q ∧ (q : Int) < j + k
    · rw [if_pos hq, pk_cpy_in (by omega) (by omega)]
      congr 2
      omega
    · rw [if_neg hq, pk_cpy_out (by omega)]
  rw [e1, e2] at X' step
  have hl : G.1 + b < H.size := by omega
  have oq : ∀ (x : Cell) (q : Nat), q ≠ G.1 + b → (H.setIfInBounds (G.1 + b) x)[q]? = H[q]? := fun x q hq => by simp [Array.getElem?_setIfInBounds, Ne.symm hq]
  have hheap : ((T.setVm vm').setCell (G.1 + b) (vp_cell (G.2.2 14) (ln M b, .inl (fun q => Int32.ofInt (gi (sw M b (fun q => if j ≤ q ∧ q < j + k then gi M a (i + (q - j)).toNat else gi M b q)) b q))))).heap = H.setIfInBounds (G.1 + b) (vp_cell (G.2.2 14) (ln M b, .inl (fun q => Int32.ofInt (gi (sw M b (fun q => if j ≤ q ∧ q < j + k then gi M a (i + (q - j)).toNat else gi M b q)) b q)))) := by rw [← hT]; rfl
  obtain ⟨t, a1, b1⟩ := hw _ _ (mPl_put hP rfl (fun b hb => mEn_sw hb) (by
      rw [mEn_i (M := sw M b _) (k := 14) hkb (by omega)]
      show (H.setIfInBounds (G.1 + b) _)[G.1 + b]? = some _
      simp [Array.getElem?_setIfInBounds, hl, ln_sw]) (oq _)) (by simp; exact hzz) ⟨by simp; exact hS.1, fun q q1 q2 => by
      rw [oq _ q (fun e => q2 (by rw [e]; exact Nat.le_add_right _ _))]
      exact hS.2.1 q q1 q2, fun q hq => by
      rcases List.mem_append.mp hq with h | h
      · exact hS.2.2 q h
      · obtain ⟨z, -, hz⟩ := List.mem_map.mp h
        rw [← hz]
        exact Nat.le_add_right _ _⟩ _ hheap X'
  refine ⟨t, ?_, b1⟩
  have hst := step t a1
  rw [← hsp, ← hdp, ← hnn] at hst
  exact hst
