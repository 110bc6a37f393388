/-! ===== soundness: new cells, calls, ends ===== -/
theorem sn_new {F : mF} {I : mI} {pc n c idx N : Nat} {C : String} {T : u_T} (hc : mCl c C T N) (hdef : ∀ j, j < N → defaultValue (mFt c j) = if mIsR (mFt c j) = true then .null else .int 0) (h1 : Cond.classLink I.1 idx C ∈ TB) (h2 : Cond.instantiable C N ∈ TB) (h3 : Cond.initialized C ∈ TB) (hd : decode I.2.1 pc = .ok (.new idx, 3)) (hn : pc + 3 = n) : mSnd F I pc (o_new c N n) := by
  subst hn
  refine sn_mem (n := pc + 3) fun CC ls st M r h => ⟨_, _, h, fun hok => ?_⟩
  refine ⟨wf_al hok.1 (by have := hc.1; omega) (by omega), fun v hv => ?_, by rw [nx_al]; omega, by rw [zs_al]; omega, ?_⟩
  · rcases List.mem_cons.mp hv with rfl | hv
    · trivial
    · exact hok.2.1 v hv
  · intro p l e R s m args below meth cd Q G d H locs lm cells slots hx hP hzz hS hlm hb1 hb2 hw
    rw [nx_al, zs_al] at *
    have hts := hx.2.2.2.2.2.2.1
    have hKn := hx.2.2.2.2.2.2.2.1.1.1 c _ hc.2.1
    refine W.newcK hx.1 hx.2.1 hx.2.2.2.2.2.1 (hts _ h1) (hts _ h2) (hts _ h3) rfl hd (by omega) (by omega) hKn.2.1 hzz fun H1 kC hkC e1 z1 o1 => ?_
    rw [show cells + 1 = cells + (nx M + 1 - nx M) by omega, show slots + N = slots + (zs M + N - zs M) by omega]
    refine hw H1 locs (mPl_new hP hzz (nx_al M c 0 N) (fun b hb => mEn_al hb) ?_ (fun q hq => o1 q (by omega))) (by omega) ⟨Nat.le_trans hS.1 (by omega), fun x q1 q2 => (o1 x (by have := hS.1; omega)).trans (hS.2.1 x q1 q2), hS.2.2⟩
    have hk : kd (al M c 0 N) (nx M) = c := by rw [kd_al, if_pos rfl]
    rw [mEn_o hk hc.1]
    refine ⟨_, hc.2.1, (u_born (mFt c) hts hc.2.2.2.1 hKn hkC e1 hc.2.2.2.2.1).to (fun j hj => ?_)⟩
    show defaultValue (mFt c j) = vp_V (mFs G (al M c 0 N) (nx M)) j
    have e2 := mFs_get (G := G) hk (i := j) (by rw [hc.2.2.1]; exact hj)
    unfold vp_V
    rw [List.getD_eq_getElem?_getD, e2, hdef j hj]
    show _ = mFv G (al M c 0 N) (nx M) j
    unfold mFv
    rw [hk, gr_al, gi_al, if_pos rfl, if_pos rfl]
    split <;> rfl
theorem sn_newa {F : mF} {I : mI} {pc n k t0 : Nat} {at0 : ArrayType} {ty : FieldType} (hty : newarray.typeOf at0 = ty) (hk : k = 13 ∨ k = 14 ∨ k = 15 ∨ k = 16) (hb : componentBytes ty ≤ 8) (ht : ∀ G : mG, (mTys G)[t0]? = some (G.2.2 k, ty)) (hra : ∀ (U : State) (cA : ClassId), va_RA U cA ty → U.vm.findClass ("[" ++ ty.toString) = some cA) (hdv : ∀ (G : mG) (M : mM) (n : Nat) (H : Heap), H[G.1 + nx M]? = some (arrV (G.2.2 k) n (fun _ => defaultValue ty)) → va_at G.2.1 vwCl (G.1 + nx M, mEn G (al M k n n) (nx M)) H) (hw : Cond.arrayClass ty ∈ TB) (hd : decode I.2.1 pc = .ok (.newarray at0, 2)) (hn : pc + 2 = n) : mSnd F I pc (o_newa k n) := by
  subst hn
  subst hty
  refine sn_mem (n := pc + 2) fun CC ls st M r h => ?_
  obtain ⟨z, st', rfl, h0, h1, h2⟩ := h
  refine ⟨_, _, h2, fun hok => ?_⟩
  have hz : inR z := hok.2.1 (vi z) List.mem_cons_self
  refine ⟨wf_al hok.1 (by omega) (by omega), fun v hv => ?_, by rw [nx_al]; omega, by rw [zs_al]; omega, ?_⟩
  · rcases List.mem_cons.mp hv with rfl | hv
    · trivial
    · exact hok.2.1 v (List.mem_cons_of_mem _ hv)
  · intro p l e R s m args below meth cd Q G d H locs lm cells slots hx hP hzz hS hlm hb1 hb2 hw2
    rw [nx_al, zs_al] at *
    have hts := hx.2.2.2.2.2.2.1
    refine va_newaK (N := z.toNat) hx.1 hx.2.1 (hts _ hw) rfl hd rfl (by rw [i32_z, i32_lt hz inR_0]; omega) (i32_nat hz) ?_ (by omega) (by omega) hzz fun H1 cA e1 z1 o1 hAr hNm => ?_
    · have : z.toNat * componentBytes (newarray.typeOf at0) ≤ 100000 * 8 := Nat.mul_le_mul (by omega) hb
      omega
    · have hcA : cA = G.2.2 k := Option.some.inj (hNm.symm.trans (hra s _ (hx.2.2.2.2.2.2.2.1.1.2 t0 _ (ht G)).2))
      subst hcA
      rw [show cells + 1 = cells + (nx M + 1 - nx M) by omega, show slots + z.toNat = slots + (zs M + z.toNat - zs M) by omega]
      exact hw2 H1 locs (mPl_new hP hzz (nx_al M k z.toNat z.toNat) (fun b hb => mEn_al hb) (hdv G M z.toNat H1 e1) (fun q hq => o1 q (by omega))) (by omega) ⟨Nat.le_trans hS.1 (by omega), fun x q1 q2 => (o1 x (by have := hS.1; omega)).trans (hS.2.1 x q1 q2), hS.2.2⟩
theorem new_i (G : mG) (M : mM) (k n : Nat) (H : Heap) (hk : k = 13 ∨ k = 14 ∨ k = 16) (h : H[G.1 + nx M]? = some (arrV (G.2.2 k) n (fun _ => .int 0))) : va_at G.2.1 vwCl (G.1 + nx M, mEn G (al M k n n) (nx M)) H := by
  have hkd : kd (al M k n n) (nx M) = k := by rw [kd_al, if_pos rfl]
  rw [mEn_i hkd hk]
  show H[G.1 + nx M]? = some (vp_cell _ _)
  rw [vp_cell_i, h, ln_al, if_pos rfl]
  congr 2
  funext j
  rw [gi_al, if_pos rfl]
  rfl
theorem new_l (G : mG) (M : mM) (n : Nat) (H : Heap) (h : H[G.1 + nx M]? = some (arrV (G.2.2 15) n (fun _ => .long 0))) : va_at G.2.1 vwCl (G.1 + nx M, mEn G (al M 15 n n) (nx M)) H := by
  have hkd : kd (al M 15 n n) (nx M) = 15 := by rw [kd_al, if_pos rfl]
  rw [mEn_l hkd]
  show H[G.1 + nx M]? = some (vp_cell _ _)
  rw [vp_cell_l, h, ln_al, if_pos rfl]
  congr 2
  funext j
  rw [gi_al, if_pos rfl]
  rfl
theorem sn_newB {F : mF} {I : mI} {pc n : Nat} (hw : Cond.arrayClass .byte ∈ TB) (hd : decode I.2.1 pc = .ok (.newarray .byte, 2)) (hn : pc + 2 = n) : mSnd F I pc (o_newa 13 n) :=
  sn_newa (t0 := 0) (ty := .byte) rfl (by omega) (by decide) (fun _ => rfl) (fun _ _ h => h) (fun G M n H h => new_i G M 13 n H (by omega) h) hw hd hn
theorem sn_newI {F : mF} {I : mI} {pc n : Nat} (hw : Cond.arrayClass .int ∈ TB) (hd : decode I.2.1 pc = .ok (.newarray .int, 2)) (hn : pc + 2 = n) : mSnd F I pc (o_newa 14 n) :=
  sn_newa (t0 := 1) (ty := .int) rfl (by omega) (by decide) (fun _ => rfl) (fun _ _ h => h) (fun G M n H h => new_i G M 14 n H (by omega) h) hw hd hn
theorem sn_newJ {F : mF} {I : mI} {pc n : Nat} (hw : Cond.arrayClass .long ∈ TB) (hd : decode I.2.1 pc = .ok (.newarray .long, 2)) (hn : pc + 2 = n) : mSnd F I pc (o_newa 15 n) :=
  sn_newa (t0 := 2) (ty := .long) rfl (by omega) (by decide) (fun _ => rfl) (fun _ _ h => h) (fun G M n H h => new_l G M n H h) hw hd hn
theorem sn_newZ {F : mF} {I : mI} {pc n : Nat} (hw : Cond.arrayClass .boolean ∈ TB) (hd : decode I.2.1 pc = .ok (.newarray .boolean, 2)) (hn : pc + 2 = n) : mSnd F I pc (o_newa 16 n) :=
  sn_newa (t0 := 3) (ty := .boolean) rfl (by omega) (by decide) (fun _ => rfl) (fun _ _ h => h) (fun G M n H h => new_i G M 16 n H (by omega) h) hw hd hn
theorem sn_newr {F : mF} {I : mI} {pc n k t0 idx : Nat} {C : String} (hk : 17 ≤ k ∧ k < 21) (ht : ∀ G : mG, (mTys G)[t0]? = some (G.2.2 k, .object C)) (hC : C ∈ ([RX0, RX2, RX6, RX7] : List String)) (hw : Cond.classLink I.1 idx C ∈ TB) (hd : decode I.2.1 pc = .ok (.anewarray idx, 3)) (hn : pc + 3 = n) : mSnd F I pc (o_newa k n) := by
  subst hn
  refine sn_mem (n := pc + 3) fun CC ls st M r h => ?_
  obtain ⟨z, st', rfl, h0, h1, h2⟩ := h
  refine ⟨_, _, h2, fun hok => ?_⟩
  have hz : inR z := hok.2.1 (vi z) List.mem_cons_self
  refine ⟨wf_al hok.1 (by omega) (by omega), fun v hv => ?_, by rw [nx_al]; omega, by rw [zs_al]; omega, ?_⟩
  · rcases List.mem_cons.mp hv with rfl | hv
    · trivial
    · exact hok.2.1 v (List.mem_cons_of_mem _ hv)
  · intro p l e R s m args below meth cd Q G d H locs lm cells slots hx hP hzz hS hlm hb1 hb2 hw2
    rw [nx_al, zs_al] at *
    have hts := hx.2.2.2.2.2.2.1
    refine W.anew hx.1 hx.2.1 hx.2.2.2.2.2.1 (hts _ hw) (va_AO.use (hx.2.2.2.2.2.2.2.1.2.2.1 C hC)) rfl hd rfl (by rw [i32_z, i32_lt hz inR_0]; omega) (by rw [i32_nat hz]; omega) (by omega) (by rw [i32_nat hz]; omega) fun cA kA comp f1 f2 f3 f4 => ?_
    rw [i32_nat hz]
    generalize hH1 : H.push ({ cls := cA, slots := Array.replicate z.toNat .null, vm := .none } : Cell) = H1
    have z1 : H1.size = H.size + 1 := by rw [← hH1, Array.size_push]
    have e1 : H1[H.size]? = some (arrV cA z.toNat (fun _ => .null)) := by rw [← hH1, Array.getElem?_push_size, ← arrV_new]
    have o1 : ∀ q : Nat, q < H.size → H1[q]? = H[q]? := fun q hq => by rw [← hH1, Array.getElem?_push, if_neg (Nat.ne_of_lt hq)]
    obtain ⟨kA2, comp2, -, -, -, hNm⟩ := (hx.2.2.2.2.2.2.2.1.1.2 t0 _ (ht G)).2
    have hcA : cA = G.2.2 k := Option.some.inj (f1.symm.trans hNm)
    subst hcA
    rw [show cells + 1 = cells + (nx M + 1 - nx M) by omega, show slots + z.toNat = slots + (zs M + z.toNat - zs M) by omega]
    have hw3 := hw2 H1 locs (mPl_new hP hzz (nx_al M k z.toNat z.toNat) (fun b hb => mEn_al hb) ?_ (fun q hq => o1 q hq)) (by omega) ⟨Nat.le_trans hS.1 (by omega), fun x q1 q2 => (o1 x (by have := hS.1; omega)).trans (hS.2.1 x q1 q2), hS.2.2⟩
    · show W p l e R s m args below meth cd H1 locs _ _ Q (F0 m (pc + 3) lm (.ref H.size :: st'.map (tv G)))
      rw [hzz]
      exact hw3
    · have hkd : kd (al M k z.toNat z.toNat) (nx M) = k := by rw [kd_al, if_pos rfl]
      rw [mEn_r hkd hk.1]
      show H1[G.1 + nx M]? = some (vp_cell _ _)
      rw [vp_cell_q, ← hzz, e1, ln_al, if_pos rfl]
      congr 2
      funext j
      rw [gr_al, if_pos rfl]
      rfl
theorem sn_objinit {F : mF} {I : mI} {pc n idx : Nat} (h1 : Cond.methodLink I.1 idx objectInit ∈ TB) (h2 : Cond.instanceMethod objectInit ∈ TB) (h3 : Cond.code objectInit ⟨#[0xb1]⟩ 1 none ∈ TB) (hd : decode I.2.1 pc = .ok (.invokespecial idx, 3)) (hn : pc + 3 = n) : mSnd F I pc (o_objinit n) := by
  subst hn
  intro l G d C hC ls st M hok
  refine ⟨fun x' h => ?_, fun v M' h => ?_⟩
  · obtain ⟨a, st', rfl, hcat, h4⟩ := h
    cases h4
    refine ⟨⟨hok.1, fun v hv => hok.2.1 v (List.mem_cons_of_mem _ hv), hok.2.2⟩, Nat.le_refl _, Nat.le_refl _, ?_⟩
    intro p e R s m args below meth c Q n0 z0 hx _ _ hk H locs lm cells slots hP hz hS hl hc hs
    have hts := hx.2.2.2.2.2.2.1
    have hr1 := hx.2.2.2.2.2.2.2.2.2.1
    have hr2 := hx.2.2.2.2.2.2.2.2.2.2.1
    refine W.objInit hx.1 hx.2.1 hx.2.2.2.2.2.1 (hts _ h1) (hts _ h2) (hts _ h3) rfl (by rw [hx.2.2.1, ← hok.2.2.2]; exact hl.1) rfl hd (by omega) ?_ (hk H locs lm cells slots hP hz hS hl hc hs)
    have := lv_room (m := m) (pc := pc) (ls := lm) (rest := (vr (some a) :: st').map (tv G)) (st := st'.map (tv G)) (by rw [tv_cats]; exact hcat)
    show 2 * (F0 m pc lm ((vr (some a) :: st').map (tv G))).monitorRoom + ((st'.map (tv G)).map fun v => v.category).sum + 12 ≤ R.locals
    omega
  · obtain ⟨a, st', -, -, h4⟩ := h
    cases h4
/-! calls -/
theorem mRU_blind {G : mG} {M : mM} {vs : List Value} : FrameBlind (va_Pc vs (fun U => mRU G M U)) := by
  intro a U g mk q
  obtain ⟨q0, qP, qz, qK⟩ := q
  exact ⟨q0, qP, qz, qK.same rfl rfl⟩
theorem m_run {p : Program} {l : Launch} {e : Env} {R : Room} {s : State} {m : MethodId} {args : Array Value} {below : List Frame} {meth : Method} {c : Code} {H : Heap} {locs : List Loc} {cells slots : Nat} {Q : State → Prop} {pc : Nat} {lm : Array Slot} {st0 rest : List Value} {av : Array Value} {G : mG} {M : mM} {r : mV × mM}
    (hr : va_Run p l e R s m args below meth c H locs cells slots (nx r.2 - nx M) (zs r.2 - zs M) (F0 m pc lm st0) rest (mQc G r av) (fun q => G.1 ≤ q)) (hS : va_S (fun q => G.1 ≤ q) s.heap H locs)
    (kk : ∀ (H1 : Heap) (locs1 : List Loc), va_P G.2.1 vwCl (mPl G r.2) H1 → H1.size = G.1 + nx r.2 → va_S (fun q => G.1 ≤ q) s.heap H1 locs1 → W p l e R s m args below meth c H1 locs1 (cells + (nx r.2 - nx M)) (slots + (zs r.2 - zs M)) Q (F0 m (pc + 3) lm ((rv G r.1).toList ++ rest))) : W p l e R s m args below meth c H locs cells slots Q (F0 m pc lm st0) := by
  intro T hT X
  obtain ⟨v, st₀, t, T', L, h0, X', hL, e1, e2, ⟨hv, ⟨hP1, hz1, -⟩, hzF, hkF⟩, st⟩ := hr T hT X
  cases hv
  rw [h0] at hzF hkF
  obtain ⟨t2, a1, b1⟩ := kk T'.heap (locs ++ L) (by rw [e1]; exact hP1) (by rw [e1]; exact hz1) ⟨Nat.le_trans hS.1 (by rw [e1]; exact hzF), fun q q1 q2 => by rw [e1, hkF q (Nat.lt_of_lt_of_le q1 hS.1) q2]; exact hS.2.1 q q1 q2, fun q hq => by
    rcases List.mem_append.mp hq with h | h
    · exact hS.2.2 q h
    · exact hL q h⟩ T' rfl X'
  exact ⟨t2, st t2 a1, b1⟩
/-- what must be said of a method that is called -/
def mMt (F : mF) (y : Nat) (n : Nat) : Prop := Cond.code (F y).1 (F y).2.2.1 (F y).2.2.2.1 (F y).2.2.2.2.1 ∈ TB ∧ Cond.initialized (F y).1.cls ∈ TB ∧ (F y).2.2.2.1 ≤ 45 ∧ ((F y).1.cls ≠ "java/lang/invoke/MethodHandle" ∧ (F y).1.cls ≠ "java/lang/invoke/VarHandle" ∧ (parseMethodDescriptor (F y).1.desc).map (fun d => d.parameters.length) = some n)
theorem mMt_good {F : mF} {y n : Nat} (h : mMt F y n) : GoodIn TB (.code (F y).1 (F y).2.2.1 (F y).2.2.2.1 (F y).2.2.2.2.1 :: TB) := TB_good (fun w hw => by
  rcases List.mem_cons.mp hw with rfl | hw
  · exact h.1
  · exact hw)
theorem ok_rev {as st' : List mV} (h : ∀ v ∈ as.reverse ++ st', okV v) : (∀ v ∈ as, okV v) ∧ ∀ v ∈ st', okV v :=
  ⟨fun v hv => h v (List.mem_append_left _ (List.mem_reverse.mpr hv)), fun v hv => h v (List.mem_append_right _ hv)⟩
theorem sn_callS {F : mF} {I : mI} {pc n y k idx : Nat} {b : Bool} (hm : mMt F y k) (hl : Cond.methodLink I.1 idx (F y).1 ∈ TB) (hs : Cond.static (F y).1 ∈ TB) (hd : decode I.2.1 pc = .ok (.invokestatic idx, 3)) (hn : pc + 3 = n) : mSnd F I pc (o_call y k b n) := by
  subst hn
  intro l G d C hC ls st M hok
  refine ⟨fun x' h => ?_, fun v M' h => ?_⟩
  · obtain ⟨as, st', v, M', rfl, hlen, hcat, hcc, hb, h4⟩ := h
    cases h4
    obtain ⟨oa, os⟩ := ok_rev hok.2.1
    obtain ⟨g1, g2, g3, g4, g5⟩ := hC y as M (v, M') hcc oa hok.1
    refine ⟨⟨g1, ?_, hok.2.2⟩, g2, g3, ?_⟩
    · cases b with
      | false => exact os
      | true =>
        intro w hw
        rcases List.mem_cons.mp hw with rfl | hw
        · exact g4.resolve_left hb
        · exact os w hw
    · intro p e R s m args below meth c Q n0 z0 hx hb1 hb2 hk H locs lm cells slots hP hz hS hl2 hc hs2
      have hts := hx.2.2.2.2.2.2.1
      have hr1 := hx.2.2.2.2.2.2.2.2.2.1
      have hr2 := hx.2.2.2.2.2.2.2.2.2.2.1
      have hc' : nx M = n0 + cells := hc
      have hs' : zs M = z0 + slots := hs2
      have hb1' : nx M' ≤ n0 + R.cells := hb1
      have hb2' : zs M' ≤ z0 + R.slots := hb2
      have g2' : nx M ≤ nx M' := g2
      have g3' : zs M ≤ zs M' := g3
      have h45 := hm.2.2.1
      refine m_run (r := (v, M')) (M := M) (rest := st'.map (tv G)) (va_runS (As := as.map (tv G)) ⟨hx.1, hx.2.1, hx.2.2.1, hx.2.2.2.2.2.1, hts⟩ g5 ⟨callB_of k hts (mMt_good hm) rfl rfl rfl (hts _ hm.2.1) (hts _ hl) hm.2.2.2 ⟨by show d + 8 + 1 ≤ R.frames; omega, by show 8 + ((F y).2.2.2.1 + 11) + mLc d ≤ R.locals; omega⟩, hts _ hs⟩ ⟨mRU_blind, fun U hU hW => ⟨rfl, by rw [hU]; exact hP, by rw [hU]; exact hz, hx.2.2.2.2.2.2.2.1.moved hW (by rw [hU]; exact hS.2.1)⟩⟩ rfl (by rw [List.length_map]; exact hlen) (by rw [← hok.2.2.2]; exact hl2.1) (by show List.map (tv G) (as.reverse ++ st') = _; rw [List.map_append, List.map_reverse]) (lv_room (by rw [tv_cats]; exact hcat)) hd ⟨by show cells + (nx M' - nx M) ≤ R.cells; omega, by show slots + (zs M' - zs M) ≤ R.slots; omega⟩) hS (fun H1 locs1 hP1 hz1 hS1 => ?_)
      have hk2 := hk H1 locs1 lm (cells + (nx M' - nx M)) (slots + (zs M' - zs M)) hP1 hz1 hS1 hl2 (by show nx M' = _; omega) (by show zs M' = _; omega)
      cases b with
      | false =>
        cases hb
        exact hk2
      | true =>
        cases v with
        | none => exact absurd rfl hb
        | some u => exact hk2
  · obtain ⟨as, st', v, M', -, -, -, -, -, h4⟩ := h
    cases h4
theorem sn_callV {F : mF} {I : mI} {pc n y k idx c N : Nat} {b : Bool} {C0 : String} {T : u_T} (hcl : mCl c C0 T N) (hm : mMt F y k) (hy : (F y).1.cls = C0) (hl : Cond.methodLink I.1 idx (F y).1 ∈ TB) (hi : Cond.instanceMethod (F y).1 ∈ TB) (hsel : Cond.selects C0 (F y).1 (F y).1 ∈ TB) (hd : decode I.2.1 pc = .ok (.invokevirtual idx, 3)) (hn : pc + 3 = n) : mSnd F I pc (o_callv y c k b n) := by
  subst hn
  intro l G d C hC ls st M hok
  refine ⟨fun x' h => ?_, fun v M' h => ?_⟩
  · obtain ⟨a, as, st', v, M', rfl, hlen, hkd, hcat, hcc, hb, h4⟩ := h
    cases h4
    obtain ⟨oa, os0⟩ := ok_rev hok.2.1
    have os : ∀ v ∈ st', okV v := fun v hv => os0 v (List.mem_cons_of_mem _ hv)
    obtain ⟨g1, g2, g3, g4, g5⟩ := hC y (vr (some a) :: as) M (v, M') hcc (fun w hw => by
      rcases List.mem_cons.mp hw with rfl | hw
      · trivial
      · exact oa w hw) hok.1
    refine ⟨⟨g1, ?_, hok.2.2⟩, g2, g3, ?_⟩
    · cases b with
      | false => exact os
      | true =>
        intro w hw
        rcases List.mem_cons.mp hw with rfl | hw
        · exact g4.resolve_left hb
        · exact os w hw
    · intro p e R s m args below meth cd Q n0 z0 hx hb1 hb2 hk H locs lm cells slots hP hz hS hl2 hc hs2
      have hts := hx.2.2.2.2.2.2.1
      have hr1 := hx.2.2.2.2.2.2.2.2.2.1
      have hr2 := hx.2.2.2.2.2.2.2.2.2.2.1
      have hc' : nx M = n0 + cells := hc
      have hs' : zs M = z0 + slots := hs2
      have hb1' : nx M' ≤ n0 + R.cells := hb1
      have hb2' : zs M' ≤ z0 + R.slots := hb2
      have g2' : nx M ≤ nx M' := g2
      have g3' : zs M ≤ zs M' := g3
      have h45 := hm.2.2.1
      have ha : a < nx M := mLt hok.1 hkd (by have := hcl.1; omega)
      refine m_run (r := (v, M')) (M := M) (rest := st'.map (tv G)) (va_runV (C := C0) (b := G.1 + a) (As := as.map (tv G)) ⟨hx.1, hx.2.1, hx.2.2.1, hx.2.2.2.2.2.1, hts⟩ g5 ⟨callB_of k hts (mMt_good hm) rfl rfl rfl (hts _ hm.2.1) (hts _ hl) hm.2.2.2 ⟨by show d + 8 + 1 ≤ R.frames; omega, by show 8 + ((F y).2.2.2.1 + 11) + mLc d ≤ R.locals; omega⟩, hts _ hi, hts _ hsel⟩ ⟨mRU_blind, va_recv hx.2.2.2.2.2.2.2.1.1 hP (ci := c) (q0 := a) hcl.2.1 (by rw [mPl_get ha, mEn_o hkd hcl.1]), fun U hU hW => ⟨rfl, by rw [hU]; exact hP, by rw [hU]; exact hz, hx.2.2.2.2.2.2.2.1.moved hW (by rw [hU]; exact hS.2.1)⟩⟩ rfl (by rw [List.length_map]; exact hlen) (by rw [← hok.2.2.2]; exact hl2.1) (by show List.map (tv G) (as.reverse ++ (vr (some a) :: st')) = _; rw [List.map_append, List.map_reverse]; rfl) (lv_room (by rw [tv_cats]; exact hcat)) hd ⟨by show cells + (nx M' - nx M) ≤ R.cells; omega, by show slots + (zs M' - zs M) ≤ R.slots; omega⟩) hS (fun H1 locs1 hP1 hz1 hS1 => ?_)
      have hk2 := hk H1 locs1 lm (cells + (nx M' - nx M)) (slots + (zs M' - zs M)) hP1 hz1 hS1 hl2 (by show nx M' = _; omega) (by show zs M' = _; omega)
      cases b with
      | false =>
        cases hb
        exact hk2
      | true =>
        cases v with
        | none => exact absurd rfl hb
        | some u => exact hk2
  · obtain ⟨a, as, st', v, M', -, -, -, -, -, -, h4⟩ := h
    cases h4
theorem sn_callI {F : mF} {I : mI} {pc n y k idx c N : Nat} {C0 : String} {T : u_T} (hcl : mCl c C0 T N) (hm : mMt F y k) (hret : (F y).2.2.2.2.1 = none) (hnm : (F y).1.name = "<init>") (hl : Cond.methodLink I.1 idx (F y).1 ∈ TB) (hi : Cond.instanceMethod (F y).1 ∈ TB) (hd : decode I.2.1 pc = .ok (.invokespecial idx, 3)) (hn : pc + 3 = n) : mSnd F I pc (o_callv y c k false n) := by
  subst hn
  intro l G d C hC ls st M hok
  refine ⟨fun x' h => ?_, fun v M' h => ?_⟩
  · obtain ⟨a, as, st', v, M', rfl, hlen, hkd, hcat, hcc, hb, h4⟩ := h
    cases h4
    obtain ⟨oa, os0⟩ := ok_rev hok.2.1
    have os : ∀ v ∈ st', okV v := fun v hv => os0 v (List.mem_cons_of_mem _ hv)
    obtain ⟨g1, g2, g3, g4, g5⟩ := hC y (vr (some a) :: as) M (v, M') hcc (fun w hw => by
      rcases List.mem_cons.mp hw with rfl | hw
      · trivial
      · exact oa w hw) hok.1
    refine ⟨⟨g1, os, hok.2.2⟩, g2, g3, ?_⟩
    intro p e R s m args below meth cd Q n0 z0 hx hb1 hb2 hk H locs lm cells slots hP hz hS hl2 hc hs2
    have hts := hx.2.2.2.2.2.2.1
    have hr1 := hx.2.2.2.2.2.2.2.2.2.1
    have hr2 := hx.2.2.2.2.2.2.2.2.2.2.1
    have hc' : nx M = n0 + cells := hc
    have hs' : zs M = z0 + slots := hs2
    have hb1' : nx M' ≤ n0 + R.cells := hb1
    have hb2' : zs M' ≤ z0 + R.slots := hb2
    have g2' : nx M ≤ nx M' := g2
    have g3' : zs M ≤ zs M' := g3
    have h45 := hm.2.2.1
    have hcB := callB_of (R := R) (s := s) (args := args) (own := I.1) (index := idx) (rm := { frames := d + 8, cells := nx M' - nx M, slots := zs M' - zs M, locals := mLc d }) k hts (mMt_good hm) rfl rfl rfl (hts _ hm.2.1) (hts _ hl) hm.2.2.2 ⟨by show d + 8 + 1 ≤ R.frames; omega, by show 8 + ((F y).2.2.2.1 + 11) + mLc d ≤ R.locals; omega⟩
    rw [hret] at hcB
    have g6 := g5
    unfold mMet at g6
    rw [hret] at g6
    refine m_run (r := (v, M')) (M := M) (rest := st'.map (tv G)) (va_runI (b := G.1 + a) (As := as.map (tv G)) ⟨hx.1, hx.2.1, hx.2.2.1, hx.2.2.2.2.2.1, hts⟩ g6 ⟨hcB, hnm, hts _ hi⟩ ⟨mRU_blind, fun U hU hW => ⟨rfl, by rw [hU]; exact hP, by rw [hU]; exact hz, hx.2.2.2.2.2.2.2.1.moved hW (by rw [hU]; exact hS.2.1)⟩⟩ rfl (by rw [List.length_map]; exact hlen) (by rw [← hok.2.2.2]; exact hl2.1) (by show List.map (tv G) (as.reverse ++ (vr (some a) :: st')) = _; rw [List.map_append, List.map_reverse]; rfl) (lv_room (by rw [tv_cats]; exact hcat)) hd ⟨by show cells + (nx M' - nx M) ≤ R.cells; omega, by show slots + (zs M' - zs M) ≤ R.slots; omega⟩) hS (fun H1 locs1 hP1 hz1 hS1 => ?_)
    have hk2 := hk H1 locs1 lm (cells + (nx M' - nx M)) (slots + (zs M' - zs M)) hP1 hz1 hS1 hl2 (by show nx M' = _; omega) (by show zs M' = _; omega)
    cases hb
    exact hk2
  · obtain ⟨a, as, st', v, M', -, -, -, -, -, -, h4⟩ := h
    cases h4
theorem sn_callIN {F : mF} {I : mI} {pc n y k idx c N : Nat} {C0 : String} {T : u_T} (hcl : mCl c C0 T N) (hm : mMt F y k) (hret : (F y).2.2.2.2.1 = none) (hnm : (F y).1.name = "<init>") (hl : (I.1, idx, (F y).1, "GuideDesk") ∈ mNst) (hi : Cond.instanceMethod (F y).1 ∈ TB) (hd : decode I.2.1 pc = .ok (.invokespecial idx, 3)) (hn : pc + 3 = n) : mSnd F I pc (o_callv y c k false n) := by
  subst hn
  intro l G d C hC ls st M hok
  refine ⟨fun x' h => ?_, fun v M' h => ?_⟩
  · obtain ⟨a, as, st', v, M', rfl, hlen, hkd, hcat, hcc, hb, h4⟩ := h
    cases h4
    obtain ⟨oa, os0⟩ := ok_rev hok.2.1
    have os : ∀ v ∈ st', okV v := fun v hv => os0 v (List.mem_cons_of_mem _ hv)
    obtain ⟨g1, g2, g3, g4, g5⟩ := hC y (vr (some a) :: as) M (v, M') hcc (fun w hw => by
      rcases List.mem_cons.mp hw with rfl | hw
      · trivial
      · exact oa w hw) hok.1
    refine ⟨⟨g1, os, hok.2.2⟩, g2, g3, ?_⟩
    intro p e R s m args below meth cd Q n0 z0 hx hb1 hb2 hk H locs lm cells slots hP hz hS hl2 hc hs2
    have hts := hx.2.2.2.2.2.2.1
    have hr1 := hx.2.2.2.2.2.2.2.2.2.1
    have hr2 := hx.2.2.2.2.2.2.2.2.2.2.1
    have hc' : nx M = n0 + cells := hc
    have hs' : zs M = z0 + slots := hs2
    have hb1' : nx M' ≤ n0 + R.cells := hb1
    have hb2' : zs M' ≤ z0 + R.slots := hb2
    have g2' : nx M ≤ nx M' := g2
    have g3' : zs M ≤ zs M' := g3
    have h45 := hm.2.2.1
    have hcB := va_cnB (R := R) (s := s) (args := args) (own := I.1) (index := idx) (host := "GuideDesk") (rm := { frames := d + 8, cells := nx M' - nx M, slots := zs M' - zs M, locals := mLc d }) k hts (mMt_good hm) rfl rfl rfl (hx.2.2.2.2.2.2.2.1.2.1 _ hl) (hts _ hm.2.1) hm.2.2.2 ⟨by show d + 8 + 1 ≤ R.frames; omega, by show 8 + ((F y).2.2.2.1 + 11) + mLc d ≤ R.locals; omega⟩
    rw [hret] at hcB
    have g6 := g5
    unfold mMet at g6
    rw [hret] at g6
    refine m_run (r := (v, M')) (M := M) (rest := st'.map (tv G)) (va_runIN (b := G.1 + a) (As := as.map (tv G)) ⟨hx.1, hx.2.1, hx.2.2.1, hx.2.2.2.2.2.1, hts⟩ g6 ⟨hcB, hnm, hts _ hi⟩ ⟨mRU_blind, fun U hU hW => ⟨rfl, by rw [hU]; exact hP, by rw [hU]; exact hz, hx.2.2.2.2.2.2.2.1.moved hW (by rw [hU]; exact hS.2.1)⟩⟩ rfl (by rw [List.length_map]; exact hlen) (by rw [← hok.2.2.2]; exact hl2.1) (by show List.map (tv G) (as.reverse ++ (vr (some a) :: st')) = _; rw [List.map_append, List.map_reverse]; rfl) (lv_room (by rw [tv_cats]; exact hcat)) hd ⟨by show cells + (nx M' - nx M) ≤ R.cells; omega, by show slots + (zs M' - zs M) ≤ R.slots; omega⟩) hS (fun H1 locs1 hP1 hz1 hS1 => ?_)
    have hk2 := hk H1 locs1 lm (cells + (nx M' - nx M)) (slots + (zs M' - zs M)) hP1 hz1 hS1 hl2 (by show nx M' = _; omega) (by show zs M' = _; omega)
    cases hb
    exact hk2
  · obtain ⟨a, as, st', v, M', -, -, -, -, -, -, h4⟩ := h
    cases h4
/-! ends -/
theorem m_end {s t : State} {H : Heap} {locs : List Loc} {G : mG} {v : mV} {M : mM} {av : Array Value} (hP : va_P G.2.1 vwCl (mPl G M) H) (hz : H.size = G.1 + nx M) (hS : va_S (fun q => G.1 ≤ q) s.heap H locs) (hK : mK G s) (ht : t.heap = H) (hW : s.WarmedH t.vm) : mQc G (v, M) av s (.returned (rv G v)) t :=
  ⟨rfl, ⟨by rw [ht]; exact hP, by rw [ht]; exact hz, hK.moved hW (by rw [ht]; exact hS.2.1)⟩, hS.F ht⟩
theorem sn_ret {F : mF} {I : mI} {pc : Nat} {o : mO} (hi : ∀ C ls st M r, o C ls st M r → ∃ v, r = .inr (v, M) ∧ (mOk I.2.2.1 ls st M → (v = none ∨ okV v) ∧ ∀ (p : Program) (l : Launch) (e : Env) (R : Room) (s : State) (m : MethodId) (args : Array Value) (below : List Frame) (meth : Method) (c : Code) (G : mG) (d : Nat) (H : Heap) (locs : List Loc) (lm : Array Slot), mCx G I p R s m args meth c d → (∀ t : State, t.heap = H → s.WarmedH t.vm → mQc G (v, M) args s (.returned (rv G v)) t) → (∀ q ∈ locs, G.1 ≤ q.base) → W p l e R s m args below meth c H locs R.cells R.slots (MQ below (mQc G (v, M)) args s R.cells R.slots (fun q => G.1 ≤ q)) (F0 m pc lm (st.map (tv G))))) : mSnd F I pc o := by
  intro l G d C hC ls st M hok
  refine ⟨fun x' h => ?_, fun v M' h => ?_⟩
  · obtain ⟨v, h1, -⟩ := hi C ls st M _ h
    cases h1
  · obtain ⟨v', h1, h2⟩ := hi C ls st M _ h
    cases h1
    obtain ⟨h3, h4⟩ := h2 hok
    refine ⟨rfl, h3, ?_⟩
    intro p e R s m args below meth c n0 z0 hx hb1 hb2 H locs lm cells slots hP hz hS hl hc hs
    have hc' : nx M = n0 + cells := hc
    have hs' : zs M = z0 + slots := hs
    refine W.widen (k := R.cells) (n := R.slots) (by omega) (by omega) ?_
    exact h4 p l e R s m args below meth c G d H locs lm hx (fun t ht hW => m_end hP hz hS hx.2.2.2.2.2.2.2.1 ht hW) hS.2.2
theorem sn_iret {F : mF} {I : mI} {pc : Nat} (hr : I.2.2.2.1 = some .int) (hd : decode I.2.1 pc = .ok (.ireturn, 1)) : mSnd F I pc o_iret := by
  refine sn_ret fun C ls st M r h => ?_
  obtain ⟨z, rfl, h1⟩ := h
  refine ⟨vi z, h1, fun hok => ⟨Or.inr (hok.2.1 _ List.mem_cons_self), ?_⟩⟩
  intro p l e R s m args below meth c G d H locs lm hx hq hf
  exact W.iret hx.1 hx.2.1 (hx.2.2.2.1.trans hr) hq hf hd hx.2.2.2.2.1
theorem sn_zret {F : mF} {I : mI} {pc : Nat} (hr : I.2.2.2.1 = some .boolean) (hd : decode I.2.1 pc = .ok (.ireturn, 1)) : mSnd F I pc o_zret := by
  refine sn_ret fun C ls st M r h => ?_
  obtain ⟨z, rfl, hb, h1⟩ := h
  refine ⟨vi z, h1, fun hok => ⟨Or.inr (hok.2.1 _ List.mem_cons_self), ?_⟩⟩
  intro p l e R s m args below meth c G d H locs lm hx hq hf
  exact W.zret hx.1 hx.2.1 (hx.2.2.2.1.trans hr) (nar_z hb).1 hq hf hd hx.2.2.2.2.1
theorem sn_lret {F : mF} {I : mI} {pc : Nat} (hr : I.2.2.2.1 = some .long) (hd : decode I.2.1 pc = .ok (.lreturn, 1)) : mSnd F I pc o_lret := by
  refine sn_ret fun C ls st M r h => ?_
  obtain ⟨z, rfl, h1⟩ := h
  refine ⟨vl z, h1, fun hok => ⟨Or.inr (hok.2.1 _ List.mem_cons_self), ?_⟩⟩
  intro p l e R s m args below meth c G d H locs lm hx hq hf
  exact W.lret hx.1 hx.2.1 (hx.2.2.2.1.trans hr) hq hf hd hx.2.2.2.2.1
theorem sn_aret {F : mF} {I : mI} {pc : Nat} {C0 : String} (hr : I.2.2.2.1 = some (.object C0)) (hd : decode I.2.1 pc = .ok (.areturn, 1)) : mSnd F I pc o_aret := by
  refine sn_ret fun C ls st M r h => ?_
  obtain ⟨o, rfl, h1⟩ := h
  refine ⟨vr o, h1, fun hok => ⟨Or.inr trivial, ?_⟩⟩
  intro p l e R s m args below meth c G d H locs lm hx hq hf
  exact W.aret hx.1 hx.2.1 (hx.2.2.2.1.trans hr) (Or.inl ⟨_, rfl⟩) (by cases o with
    | none => exact Or.inl rfl
    | some a => exact Or.inr ⟨_, rfl⟩) hq hf hd hx.2.2.2.2.1
theorem sn_vret {F : mF} {I : mI} {pc : Nat} (hr : I.2.2.2.1 = none) (hd : decode I.2.1 pc = .ok (.return_, 1)) : mSnd F I pc o_vret := by
  refine sn_ret fun C ls st M r h => ?_
  obtain ⟨rfl, h1⟩ := h
  refine ⟨vj, h1, fun hok => ⟨Or.inl rfl, ?_⟩⟩
  intro p l e R s m args below meth c G d H locs lm hx hq hf
  exact W.vret hx.1 hx.2.1 (hx.2.2.2.1.trans hr) hq hf hd hx.2.2.2.2.1
