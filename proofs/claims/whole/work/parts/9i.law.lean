/-! ===== the law at the machine: its frame keeps the script, so it walks by itself ===== -/
def LX (p : Program) (s : State) (m : MethodId) (c : Code) (b L : Nat) (xs : Nat → Int32) (G : mG) : Prop :=
  p.tables.exec = Jvm.exec ∧ c.code = code ∧ c.maxLocals = 4 ∧ s.vm.findClass "GuideDeskLaw" = some m.cls ∧ (∀ w ∈ TB, w.before #[Value.ref b] s = true) ∧ mK G s ∧ va_X b L xs s s.heap ∧ b < s.heap.size ∧ G.1 = s.heap.size
/-- the machine's heap is the small memory's picture -/
def LA (G : mG) (M : mM) (s : State) (H : Heap) (locs : List Loc) : Prop := va_P G.2.1 vwCl (mPl G M) H ∧ H.size = G.1 + nx M ∧ va_S (fun q => G.1 ≤ q) s.heap H locs ∧ mWf M
section LWA
variable {p : Program} {l : Launch} {e : Jvm.Env} {s : State} {m : MethodId} {below : List Frame} {meth : Method} {c : Code} {b L : Nat} {xs : Nat → Int32} {G : mG} {H : Heap} {locs : List Loc} {lm : Array Slot} {Q : State → Prop} {pc : Nat} {rest : List Value} {cells slots : Nat}
theorem lw_nbA (C0 : LX p s m c b L xs G) : ¬ (fun q : Nat => G.1 ≤ q) b := by
  have h1 := C0.2.2.2.2.2.2.2.1
  have h2 := C0.2.2.2.2.2.2.2.2
  show ¬ G.1 ≤ b
  omega
theorem lw_in {i k L : Nat} (h : i + k < L) (hL : L ≤ 4096) : vp_in (nI i + Int32.ofInt (k : Nat)) L := by
  have : nI i + Int32.ofInt (k : Nat) = nI (i + k) := nI_add i k
  rw [this]
  exact vp_in_nI h (by omega)
theorem lw_nat {i k L : Nat} (h : i + k < L) (hL : L ≤ 4096) : (nI i + Int32.ofInt (k : Nat)).toNatClampNeg = i + k := by
  have : nI i + Int32.ofInt (k : Nat) = nI (i + k) := nI_add i k
  rw [this]
  show (Int32.ofInt ((i + k : Nat) : Int)).toNatClampNeg = _
  rw [i32_nat ⟨by omega, by omega⟩]
  rfl
/-- script[i + k] -/
theorem lw_arg (C0 : LX p s m c b L xs G) {M : mM} (hA : LA G M s H locs) {i k : Nat} (h0 : lm[0]? = some (.val (.ref b))) (h3 : lm[3]? = some (.val (.int (nI i)))) (hi : i + 8 ≤ L) (hL : L ≤ 4096) (hk : k < 8) (d0 : decode code pc = .ok (.aload_n 0, 1)) (d1 : decode code (pc + 1) = .ok (.iload_n 3, 1)) (d2 : decode code (pc + 2) = .ok (.iconst (k : Nat), 1)) (d3 : decode code (pc + 3) = .ok (.iadd, 1)) (d4 : decode code (pc + 4) = .ok (.iaload, 1))
    (kk : W p l e room_1 s m #[.ref b] below meth c H locs cells slots Q (F0 m (pc + 5) lm (tv G (vi (xs (i + k)).toInt) :: rest))) : W p l e room_1 s m #[.ref b] below meth c H locs cells slots Q (F0 m pc lm rest) := by
  refine lv_aload_n C0.1 C0.2.1 d0 rfl h0 ?_
  refine lv_iload_n C0.1 C0.2.1 d1 rfl h3 ?_
  refine lv_iconst C0.1 C0.2.1 d2 rfl ?_
  refine lv_iadd C0.1 C0.2.1 d3 ?_
  refine va_sld C0.1 C0.2.1 C0.2.2.2.2.2.2.1 C0.2.2.2.2.2.2.2.1 (lw_nbA C0) hA.2.2.1 (lw_in (by omega) hL) d4 ?_
  rw [lw_nat (by omega) hL]
  rw [tv_i, o32] at kk
  exact kk
theorem lw_argb (C0 : LX p s m c b L xs G) {M : mM} (hA : LA G M s H locs) {i k : Nat} (h0 : lm[0]? = some (.val (.ref b))) (h3 : lm[3]? = some (.val (.int (nI i)))) (hi : i + 8 ≤ L) (hL : L ≤ 4096) (hk : k < 8) (hv : (Int8.ofInt (k : Nat)).toInt32 = Int32.ofInt (k : Nat)) (d0 : decode code pc = .ok (.aload_n 0, 1)) (d1 : decode code (pc + 1) = .ok (.iload_n 3, 1)) (d2 : decode code (pc + 2) = .ok (.bipush (k : Nat), 2)) (d3 : decode code (pc + 4) = .ok (.iadd, 1)) (d4 : decode code (pc + 5) = .ok (.iaload, 1))
    (kk : W p l e room_1 s m #[.ref b] below meth c H locs cells slots Q (F0 m (pc + 6) lm (tv G (vi (xs (i + k)).toInt) :: rest))) : W p l e room_1 s m #[.ref b] below meth c H locs cells slots Q (F0 m pc lm rest) := by
  refine lv_aload_n C0.1 C0.2.1 d0 rfl h0 ?_
  refine lv_iload_n C0.1 C0.2.1 d1 rfl h3 ?_
  refine lv_bipush C0.1 C0.2.1 d2 hv ?_
  refine lv_iadd C0.1 C0.2.1 d3 ?_
  refine va_sld C0.1 C0.2.1 C0.2.2.2.2.2.2.1 C0.2.2.2.2.2.2.2.1 (lw_nbA C0) hA.2.2.1 (lw_in (by omega) hL) d4 ?_
  rw [lw_nat (by omega) hL]
  rw [tv_i, o32] at kk
  exact kk
/-- script[i + 7] != 0 -/
theorem lw_flag (C0 : LX p s m c b L xs G) {M : mM} (hA : LA G M s H locs) {i : Nat} (h0 : lm[0]? = some (.val (.ref b))) (h3 : lm[3]? = some (.val (.int (nI i)))) (hi : i + 8 ≤ L) (hL : L ≤ 4096) (d0 : decode code pc = .ok (.aload_n 0, 1)) (d1 : decode code (pc + 1) = .ok (.iload_n 3, 1)) (d2 : decode code (pc + 2) = .ok (.bipush 7, 2)) (d3 : decode code (pc + 4) = .ok (.iadd, 1)) (d4 : decode code (pc + 5) = .ok (.iaload, 1)) (d5 : decode code (pc + 6) = .ok (.ifCond .eq 7, 3)) (d6 : decode code (pc + 9) = .ok (.iconst 1, 1)) (d7 : decode code (pc + 10) = .ok (.goto 4, 3)) (d8 : decode code (pc + 13) = .ok (.iconst 0, 1))
    (kk : W p l e room_1 s m #[.ref b] below meth c H locs cells slots Q (F0 m (pc + 14) lm (tv G (vi (if (xs (i + 7)).toInt = 0 then 0 else 1)) :: rest))) : W p l e room_1 s m #[.ref b] below meth c H locs cells slots Q (F0 m pc lm rest) := by
  refine lw_argb (k := 7) C0 hA h0 h3 hi hL (by omega) (by decide) d0 d1 d2 d3 d4 ?_
  refine lv_if_eq (x := Int32.ofInt (xs (i + 7)).toInt) (tgt := pc + 13) C0.1 C0.2.1 d5 (by omega) (fun q => ?_) (fun q => ?_)
  · refine lv_iconst C0.1 C0.2.1 d8 rfl ?_
    rw [if_pos (by rw [o32] at q; rw [q]; rfl)] at kk
    exact kk
  · refine lv_iconst C0.1 C0.2.1 d6 rfl ?_
    refine lv_goto (tgt := pc + 14) C0.1 C0.2.1 d7 (by omega) ?_
    rw [if_neg (fun h => q (by rw [h]; rfl))] at kk
    exact kk
theorem lw_callV (C0 : LX p s m c b L xs G) {y k idx c0 N a : Nat} {Cn : String} {T : u_T} {as : List mV} {M : mM} {r : mV × mM} {z : Int} {st0 : List Value} (hcl : mCl c0 Cn T N) (hm : mMt mInf y k) (hl : Cond.methodLink "GuideDeskLaw" idx (mInf y).1 ∈ TB) (hi : Cond.instanceMethod (mInf y).1 ∈ TB) (hsel : Cond.selects Cn (mInf y).1 (mInf y).1 ∈ TB) (hd : decode code pc = .ok (.invokevirtual idx, 3)) (hlen : as.length = k) (hkd : kd M a = c0) (hcc : mc 19 y (vr (some a) :: as) M r) (hz : r.1 = vi z) (oa : ∀ v ∈ as, okV v) (hA : LA G M s H locs) (hls : lm.size = 4) (hcat : (rest.map fun v => v.category).sum ≤ 8) (hst : st0 = (as.map (tv G)).reverse ++ (.ref (G.1 + a) :: rest)) (hb1 : nx r.2 ≤ 600000) (hb2 : zs r.2 ≤ 7302250)
    (kk : ∀ (H1 : Heap) (locs1 : List Loc), LA G r.2 s H1 locs1 → W p l e room_1 s m #[.ref b] below meth c H1 locs1 (nx r.2) (zs r.2) Q (F0 m (pc + 3) lm (.int (Int32.ofInt z) :: rest))) : W p l e room_1 s m #[.ref b] below meth c H locs (nx M) (zs M) Q (F0 m pc lm st0) := by
  subst hst
  obtain ⟨hx, hb, hml, hown, hts, hK, -, -, -⟩ := C0
  obtain ⟨hP, hz0, hS, hwf⟩ := hA
  obtain ⟨g1, g2, g3, g4, g5⟩ := m_good sys_full l G 19 y (vr (some a) :: as) M r hcc (fun w hw => by
    rcases List.mem_cons.mp hw with rfl | hw
    · trivial
    · exact oa w hw) hwf
  have h45 := hm.2.2.1
  have ha : a < nx M := mLt hwf hkd (by have := hcl.1; omega)
  refine m_run (r := r) (M := M) (rest := rest) (va_runV (C := Cn) (b := G.1 + a) (As := as.map (tv G)) ⟨hx, hb, hml, hown, hts⟩ g5 ⟨callB_of k hts (mMt_good hm) rfl rfl rfl (hts _ hm.2.1) (hts _ hl) hm.2.2.2 ⟨by show 19 + 8 + 1 ≤ 2048; omega, by show 8 + ((mInf y).2.2.2.1 + 11) + mLc 19 ≤ 84000; unfold mLc; omega⟩, hts _ hi, hts _ hsel⟩ ⟨mRU_blind, va_recv hK.1 hP (ci := c0) (q0 := a) hcl.2.1 (by rw [mPl_get ha, mEn_o hkd hcl.1]), fun U hU hW => ⟨rfl, by rw [hU]; exact hP, by rw [hU]; exact hz0, hK.moved hW (by rw [hU]; exact hS.2.1)⟩⟩ rfl (by rw [List.length_map]; exact hlen) hls rfl (lv_room hcat) hd ⟨by show nx M + (nx r.2 - nx M) ≤ 600000; omega, by show zs M + (zs r.2 - zs M) ≤ 7302250; omega⟩) hS (fun H1 locs1 hP1 hz1 hS1 => ?_)
  rw [show nx M + (nx r.2 - nx M) = nx r.2 by omega, show zs M + (zs r.2 - zs M) = zs r.2 by omega, hz]
  exact kk H1 locs1 ⟨hP1, hz1, hS1, g1⟩
theorem lw_callI (C0 : LX p s m c b L xs G) {y idx c0 N a : Nat} {Cn : String} {T : u_T} {M : mM} {r : mV × mM} {st0 : List Value} (hcl : mCl c0 Cn T N) (hm : mMt mInf y 0) (hret : (mInf y).2.2.2.2.1 = none) (hnm : (mInf y).1.name = "<init>") (hl : Cond.methodLink "GuideDeskLaw" idx (mInf y).1 ∈ TB) (hi : Cond.instanceMethod (mInf y).1 ∈ TB) (hd : decode code pc = .ok (.invokespecial idx, 3)) (hcc : mc 19 y [vr (some a)] M r) (hz : r.1 = vj) (hA : LA G M s H locs) (hls : lm.size = 4) (hcat : (rest.map fun v => v.category).sum ≤ 8) (hst : st0 = .ref (G.1 + a) :: rest) (hb1 : nx r.2 ≤ 600000) (hb2 : zs r.2 ≤ 7302250)
    (kk : ∀ (H1 : Heap) (locs1 : List Loc), LA G r.2 s H1 locs1 → W p l e room_1 s m #[.ref b] below meth c H1 locs1 (nx r.2) (zs r.2) Q (F0 m (pc + 3) lm rest)) : W p l e room_1 s m #[.ref b] below meth c H locs (nx M) (zs M) Q (F0 m pc lm st0) := by
  subst hst
  obtain ⟨hx, hb, hml, hown, hts, hK, -, -, -⟩ := C0
  obtain ⟨hP, hz0, hS, hwf⟩ := hA
  obtain ⟨g1, g2, g3, g4, g5⟩ := m_good sys_full l G 19 y [vr (some a)] M r hcc (fun w hw => by
    rcases List.mem_cons.mp hw with rfl | hw
    · trivial
    · cases hw) hwf
  have h45 := hm.2.2.1
  have hcB := callB_of (R := room_1) (s := s) (args := #[.ref b]) (own := "GuideDeskLaw") (index := idx) (rm := { frames := 19 + 8, cells := nx r.2 - nx M, slots := zs r.2 - zs M, locals := mLc 19 }) 0 hts (mMt_good hm) rfl rfl rfl (hts _ hm.2.1) (hts _ hl) hm.2.2.2 ⟨by show 19 + 8 + 1 ≤ 2048; omega, by show 8 + ((mInf y).2.2.2.1 + 11) + mLc 19 ≤ 84000; unfold mLc; omega⟩
  rw [hret] at hcB
  have g6 := g5
  unfold mMet at g6
  rw [hret] at g6
  refine m_run (r := r) (M := M) (rest := rest) (va_runI (b := G.1 + a) (As := []) ⟨hx, hb, hml, hown, hts⟩ g6 ⟨hcB, hnm, hts _ hi⟩ ⟨mRU_blind, fun U hU hW => ⟨rfl, by rw [hU]; exact hP, by rw [hU]; exact hz0, hK.moved hW (by rw [hU]; exact hS.2.1)⟩⟩ rfl rfl hls rfl (lv_room hcat) hd ⟨by show nx M + (nx r.2 - nx M) ≤ 600000; omega, by show zs M + (zs r.2 - zs M) ≤ 7302250; omega⟩) hS (fun H1 locs1 hP1 hz1 hS1 => ?_)
  rw [show nx M + (nx r.2 - nx M) = nx r.2 by omega, show zs M + (zs r.2 - zs M) = zs r.2 by omega, hz]
  exact kk H1 locs1 ⟨hP1, hz1, hS1, g1⟩
theorem lw_new (C0 : LX p s m c b L xs G) {c0 idx N : Nat} {Cn : String} {T : u_T} {M : mM} (hc : mCl c0 Cn T N) (hdef : ∀ j, j < N → defaultValue (mFt c0 j) = if mIsR (mFt c0 j) = true then .null else .int 0) (h1 : Cond.classLink "GuideDeskLaw" idx Cn ∈ TB) (h2 : Cond.instantiable Cn N ∈ TB) (h3 : Cond.initialized Cn ∈ TB) (hd : decode code pc = .ok (.new idx, 3)) (hA : LA G M s H locs) (hb1 : nx M + 1 ≤ 600000) (hb2 : zs M + N ≤ 7302250)
    (kk : ∀ (H1 : Heap), LA G (al M c0 0 N) s H1 locs → W p l e room_1 s m #[.ref b] below meth c H1 locs (nx M + 1) (zs M + N) Q (F0 m (pc + 3) lm (.ref (G.1 + nx M) :: rest))) : W p l e room_1 s m #[.ref b] below meth c H locs (nx M) (zs M) Q (F0 m pc lm rest) := by
  obtain ⟨hx, hb, hml, hown, hts, hK, -, -, -⟩ := C0
  obtain ⟨hP, hzz, hS, hwf⟩ := hA
  have hKn := hK.1.1 c0 _ hc.2.1
  refine W.newcK hx hb hown (hts _ h1) (hts _ h2) (hts _ h3) rfl hd (by show nx M + 1 ≤ 600000; omega) (by show zs M + N ≤ 7302250; omega) hKn.2.1 hzz fun H1 kC hkC e1 z1 o1 => ?_
  refine kk H1 ⟨mPl_new hP hzz (nx_al M c0 0 N) (fun b hb => mEn_al hb) ?_ (fun q hq => o1 q (by omega)), by rw [nx_al]; omega, ⟨Nat.le_trans hS.1 (by omega), fun x q1 q2 => (o1 x (by have := hS.1; omega)).trans (hS.2.1 x q1 q2), hS.2.2⟩, wf_al hwf (by have := hc.1; omega) (by omega)⟩
  have hk : kd (al M c0 0 N) (nx M) = c0 := by rw [kd_al, if_pos rfl]
  rw [mEn_o hk hc.1]
  refine ⟨_, hc.2.1, (u_born (mFt c0) hts hc.2.2.2.1 hKn hkC e1 hc.2.2.2.2.1).to (fun j hj => ?_)⟩
  show defaultValue (mFt c0 j) = vp_V (mFs G (al M c0 0 N) (nx M)) j
  have e2 := mFs_get (G := G) hk (i := j) (by rw [hc.2.2.1]; exact hj)
  unfold vp_V
  rw [List.getD_eq_getElem?_getD, e2, hdef j hj]
  show _ = mFv G (al M c0 0 N) (nx M) j
  unfold mFv
  rw [hk, gr_al, gi_al, if_pos rfl, if_pos rfl]
  split <;> rfl
end LWA
