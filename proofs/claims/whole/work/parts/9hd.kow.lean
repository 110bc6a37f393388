/-! ===== Tape.byteAt, spells, kindOfWord ===== -/
theorem kt_371 : Cond.methodLink "GuideDesk$Tape" (97 : Nat) ({ cls := "java/lang/String", name := "length", desc := "()I" } : Jvm.MethodName) ∈ TB := TB_of (sub_2 _ (List.mem_of_getElem? (i := 131) rfl)) rfl
theorem kt_372 : Cond.instanceMethod ({ cls := "java/lang/String", name := "length", desc := "()I" } : Jvm.MethodName) ∈ TB := TB_of (sub_2 _ (List.mem_of_getElem? (i := 132) rfl)) rfl
theorem kt_373 : Cond.selects "java/lang/String" ({ cls := "java/lang/String", name := "length", desc := "()I" } : Jvm.MethodName) ({ cls := "java/lang/String", name := "length", desc := "()I" } : Jvm.MethodName) ∈ TB := TB_of (sub_2 _ (List.mem_of_getElem? (i := 133) rfl)) rfl
theorem kt_381 : Cond.methodLink "GuideDesk$Tape" (101 : Nat) ({ cls := "java/lang/String", name := "charAt", desc := "(I)C" } : Jvm.MethodName) ∈ TB := TB_of (sub_2 _ (List.mem_of_getElem? (i := 141) rfl)) rfl
theorem kt_382 : Cond.instanceMethod ({ cls := "java/lang/String", name := "charAt", desc := "(I)C" } : Jvm.MethodName) ∈ TB := TB_of (sub_2 _ (List.mem_of_getElem? (i := 142) rfl)) rfl
theorem kt_383 : Cond.selects "java/lang/String" ({ cls := "java/lang/String", name := "charAt", desc := "(I)C" } : Jvm.MethodName) ({ cls := "java/lang/String", name := "charAt", desc := "(I)C" } : Jvm.MethodName) ∈ TB := TB_of (sub_2 _ (List.mem_of_getElem? (i := 143) rfl)) rfl
theorem kt_367 : Cond.methodLink "GuideDesk$Tape" (67 : Nat) ({ cls := "GuideDesk$Tape", name := "spells", desc := "(Ljava/lang/String;)Z" } : Jvm.MethodName) ∈ TB := TB_of (sub_2 _ (List.mem_of_getElem? (i := 127) rfl)) rfl
theorem kt_369 : Cond.instanceMethod ({ cls := "GuideDesk$Tape", name := "spells", desc := "(Ljava/lang/String;)Z" } : Jvm.MethodName) ∈ TB := TB_of (sub_2 _ (List.mem_of_getElem? (i := 129) rfl)) rfl
section JKW
variable {p : Program} {l : Launch} {e : Jvm.Env} {R : Room} {s : State} {m : MethodId} {args : Array Value} {below : List Frame} {meth : Method} {c : Code} {H : Heap} {locs : List Loc} {cells slots : Nat} {Q : State → Prop} {G : mG} {J : mI} {d pc : Nat} {lm : Array Slot} {rest : List Value} {M : mM} {a b i : Nat}
theorem j_geti (hx : jCx G J p R s m args meth c d) (hwf : mWf M) (hk : kd M a = 8) {f idx : Nat} (hf : f < 6) (ht : mIsR (mFt 8 f) = false) (hl : Cond.fieldLink J.1 idx (TX8 f).1 (TX8 f).2.1 (TX8 f).2.2.1 ∈ TB) (hd : decode J.2.1 pc = .ok (.getfield idx, 3)) (hP : va_P G.2.1 vwCl (mPl G M) H)
    (kk : W p l e R s m args below meth c H locs cells slots Q (F0 m (pc + 3) lm (.int (Int32.ofInt (gi M a f)) :: rest))) : W p l e R s m args below meth c H locs cells slots Q (F0 m pc lm (.ref (G.1 + a) :: rest)) := by
  have ha : a < nx M := mLt hwf hk (by decide)
  exact va_get hx.1 hx.2.1 hx.2.2.2.2.2.2.1 mCl_8.2.2.2.1 hx.2.2.2.2.2.1 hx.2.2.2.2.2.2.2.1.1 hP a (by rw [mPl_get ha, mEn_o hk mCl_8.1]) mCl_8.2.1 f hf (hx.2.2.2.2.2.2.1 _ hl) (fun _ h9 => h9) (by rw [mFs_get hk (by rw [mCl_8.2.2.1]; exact hf), mFv_i hk ht]) hd kk
theorem j_getr (hx : jCx G J p R s m args meth c d) (hwf : mWf M) (hk : kd M a = 8) {f idx b : Nat} (hb : gr M a f = some b) (hf : f < 6) (ht : mIsR (mFt 8 f) = true) (hl : Cond.fieldLink J.1 idx (TX8 f).1 (TX8 f).2.1 (TX8 f).2.2.1 ∈ TB) (hd : decode J.2.1 pc = .ok (.getfield idx, 3)) (hP : va_P G.2.1 vwCl (mPl G M) H)
    (kk : W p l e R s m args below meth c H locs cells slots Q (F0 m (pc + 3) lm (.ref (G.1 + b) :: rest))) : W p l e R s m args below meth c H locs cells slots Q (F0 m pc lm (.ref (G.1 + a) :: rest)) := by
  have ha : a < nx M := mLt hwf hk (by decide)
  exact va_get hx.1 hx.2.1 hx.2.2.2.2.2.2.1 mCl_8.2.2.2.1 hx.2.2.2.2.2.1 hx.2.2.2.2.2.2.2.1.1 hP a (by rw [mPl_get ha, mEn_o hk mCl_8.1]) mCl_8.2.1 f hf (hx.2.2.2.2.2.2.1 _ hl) (fun _ h9 => h9) (by rw [mFs_get hk (by rw [mCl_8.2.2.1]; exact hf), mFv_r hk ht, hb]; rfl) hd kk
end JKW
section JKB
variable {l : Launch} {G : mG} {M : mM} {a b i : Nat}
theorem w_byt {k : Int} (hwf : mWf M) (hk : kd M a = 8) (hb : gr M a 5 = some b) (hkb : kd M b = 13) (hkR : inR k) : jMet l G yX8_byteAt ij_byt 1 [.ref (G.1 + a), .int (Int32.ofInt k)] M (vi (mBt M a b k)) := by
  refine j_of (d := 0) (by decide +kernel) rfl (Nat.le_of_ble_eq_true rfl) (fun p e s m below meth c ls hx hP hz hl => ?_)
  obtain ⟨h1, h2, h3, hr, hlk, hown, hts, hK, -, -⟩ := id hx
  have hS : va_S (fun q => G.1 ≤ q) s.heap s.heap [] := va_S.rf
  have hgR : inR (gi M a 0) := hwf.2.1 a 0 (by rw [hk]; decide)
  have hln := hwf.2.2.2 b
  have hlR : inR ((ln M b : Nat) : Int) := ⟨by omega, by omega⟩
  have hbl : b < nx M := mLt hwf hkb (by decide)
  have fin : ∀ (H : Heap) (locs : List Loc), mBt M a b k = 0 → W p l e { frames := 0 + 1, cells := nx M - nx M, slots := zs M - zs M, locals := 64 * (0 + 1) } s m ([.ref (G.1 + a), .int (Int32.ofInt k)] : List Value).toArray below meth c s.heap [] 0 0 (MQ below (mQc G (vi (mBt M a b k), M)) ([.ref (G.1 + a), .int (Int32.ofInt k)] : List Value).toArray s 0 0 (fun q => G.1 ≤ q)) (F0 m 30 ls []) := by
    intro H locs e0
    rw [e0]
    refine lv_iconst h1 h2 dX8_byteAt_30 rfl ?_
    exact W.iret (v := Int32.ofInt 0) h1 h2 hr (fun t ht hW => m_end hP hz hS hK ht hW) hS.2.2 dX8_byteAt_31 hlk
  refine lv_iload_n h1 h2 dX8_byteAt_0 rfl (lv_at hl 1 rfl) ?_
  refine lv_if_lt (tgt := 30) h1 h2 dX8_byteAt_1 (by decide) (fun q => ?_) (fun q => ?_)
  · rw [i32_z, i32_lt hkR inR_0] at q
    exact fin s.heap [] (by unfold mBt; rw [if_neg (by omega)])
  rw [i32_z, i32_lt hkR inR_0] at q
  refine lv_iload_n h1 h2 dX8_byteAt_4 rfl (lv_at hl 1 rfl) ?_
  refine lv_aload_n h1 h2 dX8_byteAt_5 rfl (lv_at hl 0 rfl) ?_
  refine j_geti (f := 0) hx hwf hk (by decide) rfl kt_106 dX8_byteAt_6 hP ?_
  refine lv_icmp_ge (tgt := 30) h1 h2 dX8_byteAt_9 (by decide) (fun q2 => ?_) (fun q2 => ?_)
  · rw [i32_le hgR hkR] at q2
    exact fin s.heap [] (by unfold mBt; rw [if_neg (by omega)])
  rw [i32_le hgR hkR] at q2
  refine lv_iload_n h1 h2 dX8_byteAt_12 rfl (lv_at hl 1 rfl) ?_
  refine lv_aload_n h1 h2 dX8_byteAt_13 rfl (lv_at hl 0 rfl) ?_
  refine j_getr (f := 5) hx hwf hk hb (by decide) rfl kt_116 dX8_byteAt_14 hP ?_
  refine va_alen (v := Int32.ofInt ((ln M b : Nat) : Int)) h1 h2 hK.1 hP b 0 (by rw [mPl_get hbl, mEn_i hkb (by omega)]) rfl Int32.ofInt_eq_ofNat.symm dX8_byteAt_17 ?_
  refine lv_icmp_ge (tgt := 30) h1 h2 dX8_byteAt_18 (by decide) (fun q3 => ?_) (fun q3 => ?_)
  · rw [i32_le hlR hkR] at q3
    exact fin s.heap [] (by unfold mBt; rw [if_neg (by omega)])
  rw [i32_le hlR hkR] at q3
  refine lv_aload_n h1 h2 dX8_byteAt_21 rfl (lv_at hl 0 rfl) ?_
  refine j_getr (f := 5) hx hwf hk hb (by decide) rfl kt_116 dX8_byteAt_22 hP ?_
  refine lv_iload_n h1 h2 dX8_byteAt_25 rfl (lv_at hl 1 rfl) ?_
  refine va_bald h1 h2 hK.1 hP b 0 (by rw [mPl_get hbl, mEn_i hkb (by omega)]) rfl (i32_in hkR (by omega) (by omega)) dX8_byteAt_26 ?_
  refine lv_goto (tgt := 31) h1 h2 dX8_byteAt_27 (by decide) ?_
  have em : mBt M a b k = gi M b k.toNat := by
    unfold mBt
    rw [if_pos (by omega)]
  rw [em, i32_nat hkR]
  exact W.iret (v := Int32.ofInt (gi M b k.toNat)) h1 h2 hr (fun t ht hW => m_end hP hz hS hK ht hW) hS.2.2 dX8_byteAt_31 hlk
/-- the words, as ints -/
def wK (i : Nat) : List Int := (byK.getD i []).map Int32.toInt
theorem wK_ok : ∀ i, i < 14 → (wK i).length = lnK.getD i 0 ∧ ∀ k, k < lnK.getD i 0 → (wK i).getD k 0 = chK i k := by decide +kernel
theorem spl_t {w : List Int} (h1 : gi M a 4 - gi M a 3 = w.length) (h2 : ∀ j : Nat, j < w.length → mBt M a b (gi M a 3 + j) = w.getD j 0) : mSpl M a b w = true := by
  unfold mSpl
  rw [decide_eq_true h1, Bool.true_and, List.all_eq_true]
  intro j hj
  exact decide_eq_true (h2 j (List.mem_range.mp hj))
theorem spl_f1 {w : List Int} (h1 : ¬ gi M a 4 - gi M a 3 = w.length) : mSpl M a b w = false := by
  unfold mSpl
  rw [decide_eq_false h1, Bool.false_and]
theorem spl_f2 {w : List Int} {j : Nat} (hj : j < w.length) (h : ¬ mBt M a b (gi M a 3 + j) = w.getD j 0) : mSpl M a b w = false := by
  unfold mSpl
  rw [Bool.and_eq_false_iff]
  refine Or.inr ?_
  rw [List.all_eq_false]
  exact ⟨j, List.mem_range.mpr hj, by rw [decide_eq_false h]; exact Bool.false_ne_true⟩
theorem bt_R (hwf : mWf M) (hkb : kd M b = 13) (k : Int) : inR (mBt M a b k) := by
  unfold mBt
  split
  · exact hwf.2.1 b _ (by rw [hkb]; decide)
  · exact inR_0
theorem w_spl (hi : i < 14) (hwf : mWf M) (hk : kd M a = 8) (hb : gr M a 5 = some b) (hkb : kd M b = 13) (p1 : 0 ≤ gi M a 3) (p2 : gi M a 3 ≤ gi M a 4) (p3 : gi M a 4 ≤ 2000) : jMet l G yX8_spells ij_spl 6 [.ref (G.1 + a), .ref (G.2.2 (100 + i))] M (vi (if mSpl M a b (wK i) = true then 1 else 0)) := by
  refine j_of (d := 5) (by decide +kernel) rfl (Nat.le_of_ble_eq_true rfl) (fun p e s m below meth c ls hx hP hz hl => ?_)
  obtain ⟨h1, h2, h3, hr, hlk, hown, hts, hK, -, -⟩ := id hx
  have hS : va_S (fun q => G.1 ≤ q) s.heap s.heap [] := va_S.rf
  obtain ⟨hZ, hZF, hE, -⟩ := id hK.2.2.2.2
  obtain ⟨k1, k2⟩ := wK_ok i hi
  have h8 := lnK_s i hi
  have hal : a < nx M := mLt hwf hk (by decide)
  have no : ∀ (H : Heap) (locs : List Loc) (ls : Array Slot) (pc : Nat), va_P G.2.1 vwCl (mPl G M) H → H.size = G.1 + nx M → va_S (fun q => G.1 ≤ q) s.heap H locs → mSpl M a b (wK i) = false → decode cX8_spells pc = .ok (.iconst 0, 1) → decode cX8_spells (pc + 1) = .ok (.ireturn, 1) → W p l e { frames := 5 + 1, cells := nx M - nx M, slots := zs M - zs M, locals := 64 * (5 + 1) } s m ([.ref (G.1 + a), .ref (G.2.2 (100 + i))] : List Value).toArray below meth c H locs 0 0 (MQ below (mQc G (vi (if mSpl M a b (wK i) = true then 1 else 0), M)) ([.ref (G.1 + a), .ref (G.2.2 (100 + i))] : List Value).toArray s 0 0 (fun q => G.1 ≤ q)) (F0 m pc ls []) := by
    intro H locs ls pc hP hz hS hf d1 d2
    rw [hf]
    refine lv_iconst h1 h2 d1 rfl ?_
    exact W.zret (v := Int32.ofInt 0) h1 h2 hr rfl (fun t ht hW => m_end hP hz hS hK ht hW) hS.2.2 d2 hlk
  have loop : ∀ (n k : Nat) (H : Heap) (locs : List Loc) (ls : Array Slot), k + n = lnK.getD i 0 → gi M a 4 - gi M a 3 = (wK i).length → (∀ j : Nat, j < k → mBt M a b (gi M a 3 + j) = (wK i).getD j 0) → va_P G.2.1 vwCl (mPl G M) H → H.size = G.1 + nx M → va_S (fun q => G.1 ≤ q) s.heap H locs → lv_has ls 3 [(2, .int (Int32.ofInt (k : Int))), (0, .ref (G.1 + a)), (1, .ref (G.2.2 (100 + i)))] → W p l e { frames := 5 + 1, cells := nx M - nx M, slots := zs M - zs M, locals := 64 * (5 + 1) } s m ([.ref (G.1 + a), .ref (G.2.2 (100 + i))] : List Value).toArray below meth c H locs 0 0 (MQ below (mQc G (vi (if mSpl M a b (wK i) = true then 1 else 0), M)) ([.ref (G.1 + a), .ref (G.2.2 (100 + i))] : List Value).toArray s 0 0 (fun q => G.1 ≤ q)) (F0 m 20 ls []) := by
    intro n
    induction n with
    | zero =>
      intro k H locs ls hkn hlen hall hP hz hS hl
      refine lv_iload_n h1 h2 dX8_spells_20 rfl (lv_at hl 0 rfl) ?_
      refine lv_aload_n h1 h2 dX8_spells_21 rfl (lv_at hl 2 rfl) ?_
      refine j_callV hx (b := G.2.2 (100 + i)) (vs := []) (rest := [.int (Int32.ofInt (k : Int))]) (w_len hi) (by decide) jm_length kt_371 kt_372 kt_373 (vk_recv (adK := fun i => G.2.2 (100 + i)) (i := i) hE hi hS) dX8_spells_22 rfl hP hz hS hl.1 (Nat.le_of_ble_eq_true rfl) rfl (Nat.zero_le _) (Nat.zero_le _) (fun H locs hP hz hS => ?_)
      refine lv_icmp_ge (x := Int32.ofInt (k : Int)) (y := Int32.ofInt ((lnK.getD i 0 : Nat) : Int)) (tgt := 54) h1 h2 dX8_spells_25 (by decide) (fun _ => ?_) (fun q => absurd ((i32_le ⟨by omega, by omega⟩ ⟨by omega, by omega⟩).mpr (by omega)) q)
      rw [spl_t hlen (fun j hj => hall j (by omega))]
      refine lv_iconst h1 h2 dX8_spells_54 rfl ?_
      exact W.zret (v := Int32.ofInt 1) h1 h2 hr rfl (fun t ht hW => m_end hP hz hS hK ht hW) hS.2.2 dX8_spells_55 hlk
    | succ n ih =>
      intro k H locs ls hkn hlen hall hP hz hS hl
      have hkl : k < lnK.getD i 0 := by omega
      refine lv_iload_n h1 h2 dX8_spells_20 rfl (lv_at hl 0 rfl) ?_
      refine lv_aload_n h1 h2 dX8_spells_21 rfl (lv_at hl 2 rfl) ?_
      refine j_callV hx (b := G.2.2 (100 + i)) (vs := []) (rest := [.int (Int32.ofInt (k : Int))]) (w_len hi) (by decide) jm_length kt_371 kt_372 kt_373 (vk_recv (adK := fun i => G.2.2 (100 + i)) (i := i) hE hi hS) dX8_spells_22 rfl hP hz hS hl.1 (Nat.le_of_ble_eq_true rfl) rfl (Nat.zero_le _) (Nat.zero_le _) (fun H locs hP hz hS => ?_)
      refine lv_icmp_ge (x := Int32.ofInt (k : Int)) (y := Int32.ofInt ((lnK.getD i 0 : Nat) : Int)) (tgt := 54) h1 h2 dX8_spells_25 (by decide) (fun q => absurd ((i32_le ⟨by omega, by omega⟩ ⟨by omega, by omega⟩).mp q) (by omega)) (fun _ => ?_)
      refine lv_aload_n h1 h2 dX8_spells_28 rfl (lv_at hl 1 rfl) ?_
      refine lv_aload_n h1 h2 dX8_spells_29 rfl (lv_at hl 1 rfl) ?_
      refine j_geti (f := 3) hx hwf hk (by decide) rfl kt_113 dX8_spells_30 hP ?_
      refine lv_iload_n h1 h2 dX8_spells_33 rfl (lv_at hl 0 rfl) ?_
      refine lv_iadd h1 h2 dX8_spells_34 ?_
      rw [← Int32.ofInt_add]
      refine j_callV hx (b := G.1 + a) (vs := [.int (Int32.ofInt (gi M a 3 + (k : Int)))]) (rest := []) (w_byt hwf hk hb hkb ⟨by omega, by omega⟩) (by decide) jm_byt kt_348 kt_350 kp_1 (va_recv hK.1 hP (ci := 8) (q0 := a) mCl_8.2.1 (by rw [mPl_get hal, mEn_o hk mCl_8.1])) dX8_spells_35 rfl hP hz hS hl.1 (Nat.le_of_ble_eq_true rfl) rfl (Nat.zero_le _) (Nat.zero_le _) (fun H locs hP hz hS => ?_)
      refine lv_aload_n h1 h2 dX8_spells_38 rfl (lv_at hl 2 rfl) ?_
      refine lv_iload_n h1 h2 dX8_spells_39 rfl (lv_at hl 0 rfl) ?_
      refine j_callV hx (b := G.2.2 (100 + i)) (vs := [.int (Int32.ofInt (k : Int))]) (rest := [.int (Int32.ofInt (mBt M a b (gi M a 3 + (k : Int))))]) (w_chr hi hkl) (by decide) jm_chr kt_381 kt_382 kt_383 (vk_recv (adK := fun i => G.2.2 (100 + i)) (i := i) hE hi hS) dX8_spells_40 rfl hP hz hS hl.1 (Nat.le_of_ble_eq_true rfl) rfl (Nat.zero_le _) (Nat.zero_le _) (fun H locs hP hz hS => ?_)
      refine lv_icmp_eq (x := Int32.ofInt (mBt M a b (gi M a 3 + (k : Int)))) (y := Int32.ofInt (chK i k)) (tgt := 48) h1 h2 dX8_spells_43 (by decide) (fun q => ?_) (fun q => ?_)
      · rw [i32_eq (bt_R hwf hkb _) (chK_ok i hi k hkl).2.2] at q
        refine lv_iinc (v := Int32.ofInt ((k + 1 : Nat) : Int)) (lv' := [(2, .int (Int32.ofInt ((k + 1 : Nat) : Int))), (0, .ref (G.1 + a)), (1, .ref (G.2.2 (100 + i)))]) h1 h2 dX8_spells_48 hl (k := 0) rfl (by rw [← Int32.ofInt_add]; rfl) (by decide) rfl (fun ls hl => ?_)
        refine lv_goto (tgt := 20) h1 h2 dX8_spells_51 (by decide) ?_
        exact ih (k + 1) H locs ls (by omega) hlen (fun j hj => by
          rcases Nat.lt_or_ge j k with w | w
          · exact hall j w
          · rw [show j = k by omega, q, k2 k hkl]) hP hz hS hl
      · rw [i32_eq (bt_R hwf hkb _) (chK_ok i hi k hkl).2.2] at q
        exact no H locs ls 46 hP hz hS (spl_f2 (j := k) (by omega) (by rw [k2 k hkl]; exact q)) dX8_spells_46 dX8_spells_47
  refine lv_aload_n h1 h2 dX8_spells_0 rfl (lv_at hl 1 rfl) ?_
  refine j_callV hx (b := G.2.2 (100 + i)) (vs := []) (rest := []) (w_len hi) (by decide) jm_length kt_371 kt_372 kt_373 (vk_recv (adK := fun i => G.2.2 (100 + i)) (i := i) hE hi hS) dX8_spells_1 rfl hP hz hS hl.1 (Nat.le_of_ble_eq_true rfl) rfl (Nat.zero_le _) (Nat.zero_le _) (fun H locs hP hz hS => ?_)
  refine lv_aload_n h1 h2 dX8_spells_4 rfl (lv_at hl 0 rfl) ?_
  refine j_geti (f := 4) hx hwf hk (by decide) rfl kt_115 dX8_spells_5 hP ?_
  refine lv_aload_n h1 h2 dX8_spells_8 rfl (lv_at hl 0 rfl) ?_
  refine j_geti (f := 3) hx hwf hk (by decide) rfl kt_113 dX8_spells_9 hP ?_
  refine lv_isub h1 h2 dX8_spells_12 ?_
  rw [← Int32.ofInt_sub]
  refine lv_icmp_eq (x := Int32.ofInt ((lnK.getD i 0 : Nat) : Int)) (y := Int32.ofInt (gi M a 4 - gi M a 3)) (tgt := 18) h1 h2 dX8_spells_13 (by decide) (fun q => ?_) (fun q => ?_)
  · rw [i32_eq ⟨by omega, by omega⟩ ⟨by omega, by omega⟩] at q
    refine lv_iconst (v := Int32.ofInt ((0 : Nat) : Int)) h1 h2 dX8_spells_18 rfl ?_
    refine lv_istore_n (lv' := [(2, .int (Int32.ofInt ((0 : Nat) : Int))), (0, .ref (G.1 + a)), (1, .ref (G.2.2 (100 + i)))]) h1 h2 dX8_spells_19 rfl hl (by decide) rfl (fun ls hl => ?_)
    exact loop (lnK.getD i 0) 0 H locs ls (by omega) (by rw [k1]; exact q.symm) (fun j hj => absurd hj (Nat.not_lt_zero j)) hP hz hS hl
  · rw [i32_eq ⟨by omega, by omega⟩ ⟨by omega, by omega⟩] at q
    exact no H locs _ 16 hP hz hS (spl_f1 (by rw [k1]; exact fun h => q h.symm)) dX8_spells_16 dX8_spells_17
end JKB
theorem wk_0 : wK 0 = [119, 105, 115, 104] := by decide +kernel
theorem wk_1 : wK 1 = [110, 101, 118, 101, 114] := by decide +kernel
theorem wk_2 : wK 2 = [105, 102] := by decide +kernel
theorem wk_3 : wK 3 = [111, 114] := by decide +kernel
theorem wk_4 : wK 4 = [97, 110, 100] := by decide +kernel
theorem wk_5 : wK 5 = [108, 105, 118, 101] := by decide +kernel
theorem wk_6 : wK 6 = [102, 105, 114, 115, 116] := by decide +kernel
theorem wk_7 : wK 7 = [116, 105, 116, 108, 101] := by decide +kernel
theorem wk_8 : wK 8 = [101, 112, 105, 115, 111, 100, 101] := by decide +kernel
theorem wk_9 : wK 9 = [99, 104, 97, 110, 110, 101, 108] := by decide +kernel
theorem wk_10 : wK 10 = [102, 114, 111, 109] := by decide +kernel
theorem wk_11 : wK 11 = [117, 110, 116, 105, 108] := by decide +kernel
theorem wk_12 : wK 12 = [108, 101, 110, 103, 116, 104] := by decide +kernel
theorem wk_13 : wK 13 = [116, 114, 117, 115, 116] := by decide +kernel
theorem kz_f {t : Bool} (h : Int32.ofInt (if t = true then 1 else 0) = 0) : t = false := by
  cases t with
  | false => rfl
  | true => exact absurd h (by decide)
theorem kz_t {t : Bool} (h : ¬ Int32.ofInt (if t = true then 1 else 0) = 0) : t = true := by
  cases t with
  | true => rfl
  | false => exact absurd rfl h
theorem ite_R {c : Prop} [Decidable c] {x y : Int} (hx : inR x) (hy : inR y) : inR (if c then x else y) := by
  split
  · exact hx
  · exact hy
theorem kow_R (M : mM) (a b : Nat) : inR (mKow M a b) := by
  unfold mKow
  repeat' apply ite_R
  all_goals exact ⟨by decide, by decide⟩
theorem sn_kow_at : mSnd mInf iX8_kindOfWord 0 o_kow := by
  intro l G d C hC ls st M hok
  refine ⟨fun x' h => ?_, fun v M' h => ?_⟩
  · obtain ⟨a, b, -, -, -, -, -, -, -, -, h7⟩ := h
    cases h7
  · obtain ⟨a, b, h0, rfl, hk, hb, hkb, p1, p2, p3, h7⟩ := h
    cases h7
    refine ⟨rfl, Or.inr (kow_R M a b), ?_⟩
    intro p e R s m args below meth c n0 z0 hx hb1 hb2 H locs lm cells slots hP hz hS hl hc hs
    have hc' : nx M = n0 + cells := hc
    have hs' : zs M = z0 + slots := hs
    refine W.widen (k := R.cells) (n := R.slots) (by omega) (by omega) ?_
    show W p l e R s m args below meth c H locs R.cells R.slots _ (F0 m 0 lm [])
    have hwf := hok.1
    have hal : a < nx M := mLt hwf hk (by decide)
    have hj := jCx_of hx
    obtain ⟨h1, h2, h3, hr, hlk, hown, hts, hK, -, -⟩ := id hj
    have hT := hK.2.2.2.2.2.2.2
    have hsz : lm.size = 1 := by rw [hl.1]; exact hok.2.2.2
    have l0 : lm[0]? = some (.val (.ref (G.1 + a))) := mLl_at hl h0
    refine lv_aload_n h1 h2 dX8_kindOfWord_0 rfl l0 ?_
    refine va_ldcS (own := "GuideDesk$Tape") (index := 65) (tx := "wish") (q := G.2.2 (100 + 0)) h1 h2 hown (hT (0, 65, "wish") (by decide)) dX8_kindOfWord_1 ?_
    have hM0 := w_spl (l := l) (G := G) (i := 0) (by decide) hwf hk hb hkb p1 p2 p3
    rw [wk_0] at hM0
    refine j_callV hj (b := G.1 + a) (vs := [.ref (G.2.2 (100 + 0))]) (rest := []) hM0 (by omega) jm_spl kt_367 kt_369 kp_4 (va_recv hK.1 hP (ci := 8) (q0 := a) mCl_8.2.1 (by rw [mPl_get hal, mEn_o hk mCl_8.1])) dX8_kindOfWord_3 rfl hP hz hS hsz (Nat.le_of_ble_eq_true rfl) rfl (Nat.le_refl _) (Nat.le_refl _) (fun H locs hP hz hS => ?_)
    refine lv_if_eq (x := Int32.ofInt (if mSpl M a b [119, 105, 115, 104] = true then 1 else 0)) (tgt := 12) h1 h2 dX8_kindOfWord_6 (by decide) (fun q => ?_) (fun q => by
      have t0 := kz_t q
      have em : mKow M a b = 23 := by simp only [mKow, t0, Bool.false_eq_true, if_false, if_true]
      rw [em]
      refine lv_bipush (v := Int32.ofInt 23) h1 h2 dX8_kindOfWord_9 (by decide) ?_
      exact W.iret (v := Int32.ofInt 23) h1 h2 hr (fun t ht hW => m_end hP hz hS hK ht hW) hS.2.2 dX8_kindOfWord_11 hlk)
    have f0 := kz_f q
    clear q
    refine lv_aload_n h1 h2 dX8_kindOfWord_12 rfl l0 ?_
    refine va_ldcS (own := "GuideDesk$Tape") (index := 71) (tx := "never") (q := G.2.2 (100 + 1)) h1 h2 hown (hT (1, 71, "never") (by decide)) dX8_kindOfWord_13 ?_
    have hM1 := w_spl (l := l) (G := G) (i := 1) (by decide) hwf hk hb hkb p1 p2 p3
    rw [wk_1] at hM1
    refine j_callV hj (b := G.1 + a) (vs := [.ref (G.2.2 (100 + 1))]) (rest := []) hM1 (by omega) jm_spl kt_367 kt_369 kp_4 (va_recv hK.1 hP (ci := 8) (q0 := a) mCl_8.2.1 (by rw [mPl_get hal, mEn_o hk mCl_8.1])) dX8_kindOfWord_15 rfl hP hz hS hsz (Nat.le_of_ble_eq_true rfl) rfl (Nat.le_refl _) (Nat.le_refl _) (fun H locs hP hz hS => ?_)
    refine lv_if_eq (x := Int32.ofInt (if mSpl M a b [110, 101, 118, 101, 114] = true then 1 else 0)) (tgt := 24) h1 h2 dX8_kindOfWord_18 (by decide) (fun q => ?_) (fun q => by
      have t1 := kz_t q
      have em : mKow M a b = 24 := by simp only [mKow, f0, t1, Bool.false_eq_true, if_false, if_true]
      rw [em]
      refine lv_bipush (v := Int32.ofInt 24) h1 h2 dX8_kindOfWord_21 (by decide) ?_
      exact W.iret (v := Int32.ofInt 24) h1 h2 hr (fun t ht hW => m_end hP hz hS hK ht hW) hS.2.2 dX8_kindOfWord_23 hlk)
    have f1 := kz_f q
    clear q
    refine lv_aload_n h1 h2 dX8_kindOfWord_24 rfl l0 ?_
    refine va_ldcS (own := "GuideDesk$Tape") (index := 73) (tx := "if") (q := G.2.2 (100 + 2)) h1 h2 hown (hT (2, 73, "if") (by decide)) dX8_kindOfWord_25 ?_
    have hM2 := w_spl (l := l) (G := G) (i := 2) (by decide) hwf hk hb hkb p1 p2 p3
    rw [wk_2] at hM2
    refine j_callV hj (b := G.1 + a) (vs := [.ref (G.2.2 (100 + 2))]) (rest := []) hM2 (by omega) jm_spl kt_367 kt_369 kp_4 (va_recv hK.1 hP (ci := 8) (q0 := a) mCl_8.2.1 (by rw [mPl_get hal, mEn_o hk mCl_8.1])) dX8_kindOfWord_27 rfl hP hz hS hsz (Nat.le_of_ble_eq_true rfl) rfl (Nat.le_refl _) (Nat.le_refl _) (fun H locs hP hz hS => ?_)
    refine lv_if_eq (x := Int32.ofInt (if mSpl M a b [105, 102] = true then 1 else 0)) (tgt := 36) h1 h2 dX8_kindOfWord_30 (by decide) (fun q => ?_) (fun q => by
      have t2 := kz_t q
      have em : mKow M a b = 25 := by simp only [mKow, f0, f1, t2, Bool.false_eq_true, if_false, if_true]
      rw [em]
      refine lv_bipush (v := Int32.ofInt 25) h1 h2 dX8_kindOfWord_33 (by decide) ?_
      exact W.iret (v := Int32.ofInt 25) h1 h2 hr (fun t ht hW => m_end hP hz hS hK ht hW) hS.2.2 dX8_kindOfWord_35 hlk)
    have f2 := kz_f q
    clear q
    refine lv_aload_n h1 h2 dX8_kindOfWord_36 rfl l0 ?_
    refine va_ldcS (own := "GuideDesk$Tape") (index := 75) (tx := "or") (q := G.2.2 (100 + 3)) h1 h2 hown (hT (3, 75, "or") (by decide)) dX8_kindOfWord_37 ?_
    have hM3 := w_spl (l := l) (G := G) (i := 3) (by decide) hwf hk hb hkb p1 p2 p3
    rw [wk_3] at hM3
    refine j_callV hj (b := G.1 + a) (vs := [.ref (G.2.2 (100 + 3))]) (rest := []) hM3 (by omega) jm_spl kt_367 kt_369 kp_4 (va_recv hK.1 hP (ci := 8) (q0 := a) mCl_8.2.1 (by rw [mPl_get hal, mEn_o hk mCl_8.1])) dX8_kindOfWord_39 rfl hP hz hS hsz (Nat.le_of_ble_eq_true rfl) rfl (Nat.le_refl _) (Nat.le_refl _) (fun H locs hP hz hS => ?_)
    refine lv_if_eq (x := Int32.ofInt (if mSpl M a b [111, 114] = true then 1 else 0)) (tgt := 48) h1 h2 dX8_kindOfWord_42 (by decide) (fun q => ?_) (fun q => by
      have t3 := kz_t q
      have em : mKow M a b = 11 := by simp only [mKow, f0, f1, f2, t3, Bool.false_eq_true, if_false, if_true]
      rw [em]
      refine lv_bipush (v := Int32.ofInt 11) h1 h2 dX8_kindOfWord_45 (by decide) ?_
      exact W.iret (v := Int32.ofInt 11) h1 h2 hr (fun t ht hW => m_end hP hz hS hK ht hW) hS.2.2 dX8_kindOfWord_47 hlk)
    have f3 := kz_f q
    clear q
    refine lv_aload_n h1 h2 dX8_kindOfWord_48 rfl l0 ?_
    refine va_ldcS (own := "GuideDesk$Tape") (index := 77) (tx := "and") (q := G.2.2 (100 + 4)) h1 h2 hown (hT (4, 77, "and") (by decide)) dX8_kindOfWord_49 ?_
    have hM4 := w_spl (l := l) (G := G) (i := 4) (by decide) hwf hk hb hkb p1 p2 p3
    rw [wk_4] at hM4
    refine j_callV hj (b := G.1 + a) (vs := [.ref (G.2.2 (100 + 4))]) (rest := []) hM4 (by omega) jm_spl kt_367 kt_369 kp_4 (va_recv hK.1 hP (ci := 8) (q0 := a) mCl_8.2.1 (by rw [mPl_get hal, mEn_o hk mCl_8.1])) dX8_kindOfWord_51 rfl hP hz hS hsz (Nat.le_of_ble_eq_true rfl) rfl (Nat.le_refl _) (Nat.le_refl _) (fun H locs hP hz hS => ?_)
    refine lv_if_eq (x := Int32.ofInt (if mSpl M a b [97, 110, 100] = true then 1 else 0)) (tgt := 60) h1 h2 dX8_kindOfWord_54 (by decide) (fun q => ?_) (fun q => by
      have t4 := kz_t q
      have em : mKow M a b = 12 := by simp only [mKow, f0, f1, f2, f3, t4, Bool.false_eq_true, if_false, if_true]
      rw [em]
      refine lv_bipush (v := Int32.ofInt 12) h1 h2 dX8_kindOfWord_57 (by decide) ?_
      exact W.iret (v := Int32.ofInt 12) h1 h2 hr (fun t ht hW => m_end hP hz hS hK ht hW) hS.2.2 dX8_kindOfWord_59 hlk)
    have f4 := kz_f q
    clear q
    refine lv_aload_n h1 h2 dX8_kindOfWord_60 rfl l0 ?_
    refine va_ldcS (own := "GuideDesk$Tape") (index := 79) (tx := "live") (q := G.2.2 (100 + 5)) h1 h2 hown (hT (5, 79, "live") (by decide)) dX8_kindOfWord_61 ?_
    have hM5 := w_spl (l := l) (G := G) (i := 5) (by decide) hwf hk hb hkb p1 p2 p3
    rw [wk_5] at hM5
    refine j_callV hj (b := G.1 + a) (vs := [.ref (G.2.2 (100 + 5))]) (rest := []) hM5 (by omega) jm_spl kt_367 kt_369 kp_4 (va_recv hK.1 hP (ci := 8) (q0 := a) mCl_8.2.1 (by rw [mPl_get hal, mEn_o hk mCl_8.1])) dX8_kindOfWord_63 rfl hP hz hS hsz (Nat.le_of_ble_eq_true rfl) rfl (Nat.le_refl _) (Nat.le_refl _) (fun H locs hP hz hS => ?_)
    refine lv_if_eq (x := Int32.ofInt (if mSpl M a b [108, 105, 118, 101] = true then 1 else 0)) (tgt := 72) h1 h2 dX8_kindOfWord_66 (by decide) (fun q => ?_) (fun q => by
      have t5 := kz_t q
      have em : mKow M a b = 9 := by simp only [mKow, f0, f1, f2, f3, f4, t5, Bool.false_eq_true, if_false, if_true]
      rw [em]
      refine lv_bipush (v := Int32.ofInt 9) h1 h2 dX8_kindOfWord_69 (by decide) ?_
      exact W.iret (v := Int32.ofInt 9) h1 h2 hr (fun t ht hW => m_end hP hz hS hK ht hW) hS.2.2 dX8_kindOfWord_71 hlk)
    have f5 := kz_f q
    clear q
    refine lv_aload_n h1 h2 dX8_kindOfWord_72 rfl l0 ?_
    refine va_ldcS (own := "GuideDesk$Tape") (index := 81) (tx := "first") (q := G.2.2 (100 + 6)) h1 h2 hown (hT (6, 81, "first") (by decide)) dX8_kindOfWord_73 ?_
    have hM6 := w_spl (l := l) (G := G) (i := 6) (by decide) hwf hk hb hkb p1 p2 p3
    rw [wk_6] at hM6
    refine j_callV hj (b := G.1 + a) (vs := [.ref (G.2.2 (100 + 6))]) (rest := []) hM6 (by omega) jm_spl kt_367 kt_369 kp_4 (va_recv hK.1 hP (ci := 8) (q0 := a) mCl_8.2.1 (by rw [mPl_get hal, mEn_o hk mCl_8.1])) dX8_kindOfWord_75 rfl hP hz hS hsz (Nat.le_of_ble_eq_true rfl) rfl (Nat.le_refl _) (Nat.le_refl _) (fun H locs hP hz hS => ?_)
    refine lv_if_eq (x := Int32.ofInt (if mSpl M a b [102, 105, 114, 115, 116] = true then 1 else 0)) (tgt := 84) h1 h2 dX8_kindOfWord_78 (by decide) (fun q => ?_) (fun q => by
      have t6 := kz_t q
      have em : mKow M a b = 10 := by simp only [mKow, f0, f1, f2, f3, f4, f5, t6, Bool.false_eq_true, if_false, if_true]
      rw [em]
      refine lv_bipush (v := Int32.ofInt 10) h1 h2 dX8_kindOfWord_81 (by decide) ?_
      exact W.iret (v := Int32.ofInt 10) h1 h2 hr (fun t ht hW => m_end hP hz hS hK ht hW) hS.2.2 dX8_kindOfWord_83 hlk)
    have f6 := kz_f q
    clear q
    refine lv_aload_n h1 h2 dX8_kindOfWord_84 rfl l0 ?_
    refine va_ldcS (own := "GuideDesk$Tape") (index := 83) (tx := "title") (q := G.2.2 (100 + 7)) h1 h2 hown (hT (7, 83, "title") (by decide)) dX8_kindOfWord_85 ?_
    have hM7 := w_spl (l := l) (G := G) (i := 7) (by decide) hwf hk hb hkb p1 p2 p3
    rw [wk_7] at hM7
    refine j_callV hj (b := G.1 + a) (vs := [.ref (G.2.2 (100 + 7))]) (rest := []) hM7 (by omega) jm_spl kt_367 kt_369 kp_4 (va_recv hK.1 hP (ci := 8) (q0 := a) mCl_8.2.1 (by rw [mPl_get hal, mEn_o hk mCl_8.1])) dX8_kindOfWord_87 rfl hP hz hS hsz (Nat.le_of_ble_eq_true rfl) rfl (Nat.le_refl _) (Nat.le_refl _) (fun H locs hP hz hS => ?_)
    refine lv_if_eq (x := Int32.ofInt (if mSpl M a b [116, 105, 116, 108, 101] = true then 1 else 0)) (tgt := 95) h1 h2 dX8_kindOfWord_90 (by decide) (fun q => ?_) (fun q => by
      have t7 := kz_t q
      have em : mKow M a b = 2 := by simp only [mKow, f0, f1, f2, f3, f4, f5, f6, t7, Bool.false_eq_true, if_false, if_true]
      rw [em]
      refine lv_iconst (v := Int32.ofInt 2) h1 h2 dX8_kindOfWord_93 rfl ?_
      exact W.iret (v := Int32.ofInt 2) h1 h2 hr (fun t ht hW => m_end hP hz hS hK ht hW) hS.2.2 dX8_kindOfWord_94 hlk)
    have f7 := kz_f q
    clear q
    refine lv_aload_n h1 h2 dX8_kindOfWord_95 rfl l0 ?_
    refine va_ldcS (own := "GuideDesk$Tape") (index := 85) (tx := "episode") (q := G.2.2 (100 + 8)) h1 h2 hown (hT (8, 85, "episode") (by decide)) dX8_kindOfWord_96 ?_
    have hM8 := w_spl (l := l) (G := G) (i := 8) (by decide) hwf hk hb hkb p1 p2 p3
    rw [wk_8] at hM8
    refine j_callV hj (b := G.1 + a) (vs := [.ref (G.2.2 (100 + 8))]) (rest := []) hM8 (by omega) jm_spl kt_367 kt_369 kp_4 (va_recv hK.1 hP (ci := 8) (q0 := a) mCl_8.2.1 (by rw [mPl_get hal, mEn_o hk mCl_8.1])) dX8_kindOfWord_98 rfl hP hz hS hsz (Nat.le_of_ble_eq_true rfl) rfl (Nat.le_refl _) (Nat.le_refl _) (fun H locs hP hz hS => ?_)
    refine lv_if_eq (x := Int32.ofInt (if mSpl M a b [101, 112, 105, 115, 111, 100, 101] = true then 1 else 0)) (tgt := 106) h1 h2 dX8_kindOfWord_101 (by decide) (fun q => ?_) (fun q => by
      have t8 := kz_t q
      have em : mKow M a b = 3 := by simp only [mKow, f0, f1, f2, f3, f4, f5, f6, f7, t8, Bool.false_eq_true, if_false, if_true]
      rw [em]
      refine lv_iconst (v := Int32.ofInt 3) h1 h2 dX8_kindOfWord_104 rfl ?_
      exact W.iret (v := Int32.ofInt 3) h1 h2 hr (fun t ht hW => m_end hP hz hS hK ht hW) hS.2.2 dX8_kindOfWord_105 hlk)
    have f8 := kz_f q
    clear q
    refine lv_aload_n h1 h2 dX8_kindOfWord_106 rfl l0 ?_
    refine va_ldcS (own := "GuideDesk$Tape") (index := 87) (tx := "channel") (q := G.2.2 (100 + 9)) h1 h2 hown (hT (9, 87, "channel") (by decide)) dX8_kindOfWord_107 ?_
    have hM9 := w_spl (l := l) (G := G) (i := 9) (by decide) hwf hk hb hkb p1 p2 p3
    rw [wk_9] at hM9
    refine j_callV hj (b := G.1 + a) (vs := [.ref (G.2.2 (100 + 9))]) (rest := []) hM9 (by omega) jm_spl kt_367 kt_369 kp_4 (va_recv hK.1 hP (ci := 8) (q0 := a) mCl_8.2.1 (by rw [mPl_get hal, mEn_o hk mCl_8.1])) dX8_kindOfWord_109 rfl hP hz hS hsz (Nat.le_of_ble_eq_true rfl) rfl (Nat.le_refl _) (Nat.le_refl _) (fun H locs hP hz hS => ?_)
    refine lv_if_eq (x := Int32.ofInt (if mSpl M a b [99, 104, 97, 110, 110, 101, 108] = true then 1 else 0)) (tgt := 117) h1 h2 dX8_kindOfWord_112 (by decide) (fun q => ?_) (fun q => by
      have t9 := kz_t q
      have em : mKow M a b = 4 := by simp only [mKow, f0, f1, f2, f3, f4, f5, f6, f7, f8, t9, Bool.false_eq_true, if_false, if_true]
      rw [em]
      refine lv_iconst (v := Int32.ofInt 4) h1 h2 dX8_kindOfWord_115 rfl ?_
      exact W.iret (v := Int32.ofInt 4) h1 h2 hr (fun t ht hW => m_end hP hz hS hK ht hW) hS.2.2 dX8_kindOfWord_116 hlk)
    have f9 := kz_f q
    clear q
    refine lv_aload_n h1 h2 dX8_kindOfWord_117 rfl l0 ?_
    refine va_ldcS (own := "GuideDesk$Tape") (index := 89) (tx := "from") (q := G.2.2 (100 + 10)) h1 h2 hown (hT (10, 89, "from") (by decide)) dX8_kindOfWord_118 ?_
    have hM10 := w_spl (l := l) (G := G) (i := 10) (by decide) hwf hk hb hkb p1 p2 p3
    rw [wk_10] at hM10
    refine j_callV hj (b := G.1 + a) (vs := [.ref (G.2.2 (100 + 10))]) (rest := []) hM10 (by omega) jm_spl kt_367 kt_369 kp_4 (va_recv hK.1 hP (ci := 8) (q0 := a) mCl_8.2.1 (by rw [mPl_get hal, mEn_o hk mCl_8.1])) dX8_kindOfWord_120 rfl hP hz hS hsz (Nat.le_of_ble_eq_true rfl) rfl (Nat.le_refl _) (Nat.le_refl _) (fun H locs hP hz hS => ?_)
    refine lv_if_eq (x := Int32.ofInt (if mSpl M a b [102, 114, 111, 109] = true then 1 else 0)) (tgt := 128) h1 h2 dX8_kindOfWord_123 (by decide) (fun q => ?_) (fun q => by
      have t10 := kz_t q
      have em : mKow M a b = 5 := by simp only [mKow, f0, f1, f2, f3, f4, f5, f6, f7, f8, f9, t10, Bool.false_eq_true, if_false, if_true]
      rw [em]
      refine lv_iconst (v := Int32.ofInt 5) h1 h2 dX8_kindOfWord_126 rfl ?_
      exact W.iret (v := Int32.ofInt 5) h1 h2 hr (fun t ht hW => m_end hP hz hS hK ht hW) hS.2.2 dX8_kindOfWord_127 hlk)
    have f10 := kz_f q
    clear q
    refine lv_aload_n h1 h2 dX8_kindOfWord_128 rfl l0 ?_
    refine va_ldcS (own := "GuideDesk$Tape") (index := 91) (tx := "until") (q := G.2.2 (100 + 11)) h1 h2 hown (hT (11, 91, "until") (by decide)) dX8_kindOfWord_129 ?_
    have hM11 := w_spl (l := l) (G := G) (i := 11) (by decide) hwf hk hb hkb p1 p2 p3
    rw [wk_11] at hM11
    refine j_callV hj (b := G.1 + a) (vs := [.ref (G.2.2 (100 + 11))]) (rest := []) hM11 (by omega) jm_spl kt_367 kt_369 kp_4 (va_recv hK.1 hP (ci := 8) (q0 := a) mCl_8.2.1 (by rw [mPl_get hal, mEn_o hk mCl_8.1])) dX8_kindOfWord_131 rfl hP hz hS hsz (Nat.le_of_ble_eq_true rfl) rfl (Nat.le_refl _) (Nat.le_refl _) (fun H locs hP hz hS => ?_)
    refine lv_if_eq (x := Int32.ofInt (if mSpl M a b [117, 110, 116, 105, 108] = true then 1 else 0)) (tgt := 140) h1 h2 dX8_kindOfWord_134 (by decide) (fun q => ?_) (fun q => by
      have t11 := kz_t q
      have em : mKow M a b = 6 := by simp only [mKow, f0, f1, f2, f3, f4, f5, f6, f7, f8, f9, f10, t11, Bool.false_eq_true, if_false, if_true]
      rw [em]
      refine lv_bipush (v := Int32.ofInt 6) h1 h2 dX8_kindOfWord_137 (by decide) ?_
      exact W.iret (v := Int32.ofInt 6) h1 h2 hr (fun t ht hW => m_end hP hz hS hK ht hW) hS.2.2 dX8_kindOfWord_139 hlk)
    have f11 := kz_f q
    clear q
    refine lv_aload_n h1 h2 dX8_kindOfWord_140 rfl l0 ?_
    refine va_ldcS (own := "GuideDesk$Tape") (index := 93) (tx := "length") (q := G.2.2 (100 + 12)) h1 h2 hown (hT (12, 93, "length") (by decide)) dX8_kindOfWord_141 ?_
    have hM12 := w_spl (l := l) (G := G) (i := 12) (by decide) hwf hk hb hkb p1 p2 p3
    rw [wk_12] at hM12
    refine j_callV hj (b := G.1 + a) (vs := [.ref (G.2.2 (100 + 12))]) (rest := []) hM12 (by omega) jm_spl kt_367 kt_369 kp_4 (va_recv hK.1 hP (ci := 8) (q0 := a) mCl_8.2.1 (by rw [mPl_get hal, mEn_o hk mCl_8.1])) dX8_kindOfWord_143 rfl hP hz hS hsz (Nat.le_of_ble_eq_true rfl) rfl (Nat.le_refl _) (Nat.le_refl _) (fun H locs hP hz hS => ?_)
    refine lv_if_eq (x := Int32.ofInt (if mSpl M a b [108, 101, 110, 103, 116, 104] = true then 1 else 0)) (tgt := 152) h1 h2 dX8_kindOfWord_146 (by decide) (fun q => ?_) (fun q => by
      have t12 := kz_t q
      have em : mKow M a b = 7 := by simp only [mKow, f0, f1, f2, f3, f4, f5, f6, f7, f8, f9, f10, f11, t12, Bool.false_eq_true, if_false, if_true]
      rw [em]
      refine lv_bipush (v := Int32.ofInt 7) h1 h2 dX8_kindOfWord_149 (by decide) ?_
      exact W.iret (v := Int32.ofInt 7) h1 h2 hr (fun t ht hW => m_end hP hz hS hK ht hW) hS.2.2 dX8_kindOfWord_151 hlk)
    have f12 := kz_f q
    clear q
    refine lv_aload_n h1 h2 dX8_kindOfWord_152 rfl l0 ?_
    refine va_ldcS (own := "GuideDesk$Tape") (index := 95) (tx := "trust") (q := G.2.2 (100 + 13)) h1 h2 hown (hT (13, 95, "trust") (by decide)) dX8_kindOfWord_153 ?_
    have hM13 := w_spl (l := l) (G := G) (i := 13) (by decide) hwf hk hb hkb p1 p2 p3
    rw [wk_13] at hM13
    refine j_callV hj (b := G.1 + a) (vs := [.ref (G.2.2 (100 + 13))]) (rest := []) hM13 (by omega) jm_spl kt_367 kt_369 kp_4 (va_recv hK.1 hP (ci := 8) (q0 := a) mCl_8.2.1 (by rw [mPl_get hal, mEn_o hk mCl_8.1])) dX8_kindOfWord_155 rfl hP hz hS hsz (Nat.le_of_ble_eq_true rfl) rfl (Nat.le_refl _) (Nat.le_refl _) (fun H locs hP hz hS => ?_)
    refine lv_if_eq (x := Int32.ofInt (if mSpl M a b [116, 114, 117, 115, 116] = true then 1 else 0)) (tgt := 164) h1 h2 dX8_kindOfWord_158 (by decide) (fun q => ?_) (fun q => by
      have t13 := kz_t q
      have em : mKow M a b = 8 := by simp only [mKow, f0, f1, f2, f3, f4, f5, f6, f7, f8, f9, f10, f11, f12, t13, Bool.false_eq_true, if_false, if_true]
      rw [em]
      refine lv_bipush (v := Int32.ofInt 8) h1 h2 dX8_kindOfWord_161 (by decide) ?_
      exact W.iret (v := Int32.ofInt 8) h1 h2 hr (fun t ht hW => m_end hP hz hS hK ht hW) hS.2.2 dX8_kindOfWord_163 hlk)
    have f13 := kz_f q
    clear q
    have em : mKow M a b = 0 := by simp only [mKow, f0, f1, f2, f3, f4, f5, f6, f7, f8, f9, f10, f11, f12, f13, Bool.false_eq_true, if_false]
    rw [em]
    refine lv_iconst (v := Int32.ofInt 0) h1 h2 dX8_kindOfWord_164 rfl ?_
    exact W.iret (v := Int32.ofInt 0) h1 h2 hr (fun t ht hW => m_end hP hz hS hK ht hW) hS.2.2 dX8_kindOfWord_165 hlk
theorem sys_full : mSys mInf mProg := sys_ok sn_mna_at sn_kow_at
