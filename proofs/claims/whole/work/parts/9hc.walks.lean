/-! ===== String.length, String.charAt ===== -/
theorem kt_378 : Cond.code ({ cls := "java/lang/String", name := "coder", desc := "()B" } : Jvm.MethodName) prog_17_method_152_code (1 : Nat) (Option.some Jvm.ClassFile.FieldType.byte) ∈ TB := TB_of (sub_2 _ (List.mem_of_getElem? (i := 138) rfl)) rfl
theorem kt_10 : Cond.initialized "java/lang/String" ∈ TB := TB_of (sub_1 _ (List.mem_of_getElem? (i := 10) rfl)) rfl
theorem kt_374 : Cond.code ({ cls := "java/lang/String", name := "length", desc := "()I" } : Jvm.MethodName) prog_17_method_54_code (1 : Nat) (Option.some Jvm.ClassFile.FieldType.int) ∈ TB := TB_of (sub_2 _ (List.mem_of_getElem? (i := 134) rfl)) rfl
theorem kt_388 : Cond.code ({ cls := "java/lang/String", name := "isLatin1", desc := "()Z" } : Jvm.MethodName) prog_17_method_154_code (1 : Nat) (Option.some Jvm.ClassFile.FieldType.boolean) ∈ TB := TB_of (sub_2 _ (List.mem_of_getElem? (i := 148) rfl)) rfl
theorem kt_384 : Cond.code ({ cls := "java/lang/String", name := "charAt", desc := "(I)C" } : Jvm.MethodName) prog_17_method_56_code (2 : Nat) (Option.some Jvm.ClassFile.FieldType.char) ∈ TB := TB_of (sub_2 _ (List.mem_of_getElem? (i := 144) rfl)) rfl
theorem kt_394 : Cond.code ({ cls := "java/lang/String", name := "checkIndex", desc := "(II)V" } : Jvm.MethodName) prog_17_method_155_code (2 : Nat) (Option.none : Option Jvm.ClassFile.FieldType) ∈ TB := TB_of (sub_2 _ (List.mem_of_getElem? (i := 154) rfl)) rfl
theorem kt_391 : Cond.code ({ cls := "java/lang/StringLatin1", name := "charAt", desc := "([BI)C" } : Jvm.MethodName) prog_18_method_2_code (2 : Nat) (Option.some Jvm.ClassFile.FieldType.char) ∈ TB := TB_of (sub_2 _ (List.mem_of_getElem? (i := 151) rfl)) rfl
theorem kt_11 : Cond.initialized "java/lang/StringLatin1" ∈ TB := TB_of (sub_1 _ (List.mem_of_getElem? (i := 11) rfl)) rfl
theorem kt_399 : Cond.code ({ cls := "jdk/internal/util/Preconditions", name := "checkIndex", desc := "(IILjava/util/function/BiFunction;)I" } : Jvm.MethodName) prog_22_method_11_code (3 : Nat) (Option.some Jvm.ClassFile.FieldType.int) ∈ TB := TB_of (sub_2 _ (List.mem_of_getElem? (i := 159) rfl)) rfl
theorem kt_12 : Cond.initialized "jdk/internal/util/Preconditions" ∈ TB := TB_of (sub_1 _ (List.mem_of_getElem? (i := 12) rfl)) rfl
theorem kt_370 : Cond.code ({ cls := "GuideDesk$Tape", name := "spells", desc := "(Ljava/lang/String;)Z" } : Jvm.MethodName) prog_10_method_15_code (3 : Nat) (Option.some Jvm.ClassFile.FieldType.boolean) ∈ TB := TB_of (sub_2 _ (List.mem_of_getElem? (i := 130) rfl)) rfl
theorem kt_379 : Cond.fieldLink "java/lang/String" (38 : Nat) "java/lang/String" "COMPACT_STRINGS" "Z" ∈ TB := TB_of (sub_2 _ (List.mem_of_getElem? (i := 139) rfl)) rfl
theorem kt_1511 : Cond.fieldLink "java/lang/String" (15 : Nat) "java/lang/String" "coder" "B" ∈ TB := TB_of (sub_7 _ (List.mem_of_getElem? (i := 71) rfl)) rfl
theorem kt_395 : Cond.fieldLink "java/lang/String" (1053 : Nat) "jdk/internal/util/Preconditions" "SIOOBE_FORMATTER" "Ljava/util/function/BiFunction;" ∈ TB := TB_of (sub_2 _ (List.mem_of_getElem? (i := 155) rfl)) rfl
theorem kt_397 : Cond.methodLink "java/lang/String" (1059 : Nat) ({ cls := "jdk/internal/util/Preconditions", name := "checkIndex", desc := "(IILjava/util/function/BiFunction;)I" } : Jvm.MethodName) ∈ TB := TB_of (sub_2 _ (List.mem_of_getElem? (i := 157) rfl)) rfl
theorem kt_398 : Cond.static ({ cls := "jdk/internal/util/Preconditions", name := "checkIndex", desc := "(IILjava/util/function/BiFunction;)I" } : Jvm.MethodName) ∈ TB := TB_of (sub_2 _ (List.mem_of_getElem? (i := 158) rfl)) rfl
theorem kt_392 : Cond.methodLink "java/lang/StringLatin1" (9 : Nat) ({ cls := "java/lang/String", name := "checkIndex", desc := "(II)V" } : Jvm.MethodName) ∈ TB := TB_of (sub_2 _ (List.mem_of_getElem? (i := 152) rfl)) rfl
theorem kt_393 : Cond.static ({ cls := "java/lang/String", name := "checkIndex", desc := "(II)V" } : Jvm.MethodName) ∈ TB := TB_of (sub_2 _ (List.mem_of_getElem? (i := 153) rfl)) rfl
theorem kt_1510 : Cond.fieldLink "java/lang/String" (9 : Nat) "java/lang/String" "value" "[B" ∈ TB := TB_of (sub_7 _ (List.mem_of_getElem? (i := 70) rfl)) rfl
theorem kt_375 : Cond.methodLink "java/lang/String" (335 : Nat) ({ cls := "java/lang/String", name := "coder", desc := "()B" } : Jvm.MethodName) ∈ TB := TB_of (sub_2 _ (List.mem_of_getElem? (i := 135) rfl)) rfl
theorem kt_376 : Cond.instanceMethod ({ cls := "java/lang/String", name := "coder", desc := "()B" } : Jvm.MethodName) ∈ TB := TB_of (sub_2 _ (List.mem_of_getElem? (i := 136) rfl)) rfl
theorem kt_377 : Cond.selects "java/lang/String" ({ cls := "java/lang/String", name := "coder", desc := "()B" } : Jvm.MethodName) ({ cls := "java/lang/String", name := "coder", desc := "()B" } : Jvm.MethodName) ∈ TB := TB_of (sub_2 _ (List.mem_of_getElem? (i := 137) rfl)) rfl
theorem kt_385 : Cond.methodLink "java/lang/String" (492 : Nat) ({ cls := "java/lang/String", name := "isLatin1", desc := "()Z" } : Jvm.MethodName) ∈ TB := TB_of (sub_2 _ (List.mem_of_getElem? (i := 145) rfl)) rfl
theorem kt_386 : Cond.instanceMethod ({ cls := "java/lang/String", name := "isLatin1", desc := "()Z" } : Jvm.MethodName) ∈ TB := TB_of (sub_2 _ (List.mem_of_getElem? (i := 146) rfl)) rfl
theorem kt_387 : Cond.selects "java/lang/String" ({ cls := "java/lang/String", name := "isLatin1", desc := "()Z" } : Jvm.MethodName) ({ cls := "java/lang/String", name := "isLatin1", desc := "()Z" } : Jvm.MethodName) ∈ TB := TB_of (sub_2 _ (List.mem_of_getElem? (i := 147) rfl)) rfl
theorem kt_389 : Cond.methodLink "java/lang/String" (495 : Nat) ({ cls := "java/lang/StringLatin1", name := "charAt", desc := "([BI)C" } : Jvm.MethodName) ∈ TB := TB_of (sub_2 _ (List.mem_of_getElem? (i := 149) rfl)) rfl
theorem kt_390 : Cond.static ({ cls := "java/lang/StringLatin1", name := "charAt", desc := "([BI)C" } : Jvm.MethodName) ∈ TB := TB_of (sub_2 _ (List.mem_of_getElem? (i := 150) rfl)) rfl
def ij_coder : mI := (RJ0, cJ0_coder_7d493, 1, some .byte, false)
theorem jm_coder : jMt yJ0_coder_7d493 ij_coder 0 := ⟨kt_378, kt_10, (by decide : 1 ≤ 45), by decide +kernel⟩
def ij_length : mI := (RJ0, cJ0_length_8abf5, 1, some .int, false)
theorem jm_length : jMt yJ0_length_8abf5 ij_length 0 := ⟨kt_374, kt_10, (by decide : 1 ≤ 45), by decide +kernel⟩
def ij_lat : mI := (RJ0, cJ0_isLatin1_aae02, 1, some .boolean, false)
theorem jm_lat : jMt yJ0_isLatin1_aae02 ij_lat 0 := ⟨kt_388, kt_10, (by decide : 1 ≤ 45), by decide +kernel⟩
def ij_chr : mI := (RJ0, cJ0_charAt_5068e, 2, some .char, false)
theorem jm_chr : jMt yJ0_charAt_5068e ij_chr 1 := ⟨kt_384, kt_10, (by decide : 2 ≤ 45), by decide +kernel⟩
def ij_chk : mI := (RJ0, cJ0_checkIndex_df160, 2, none, false)
theorem jm_chk : jMt yJ0_checkIndex_df160 ij_chk 2 := ⟨kt_394, kt_10, (by decide : 2 ≤ 45), by decide +kernel⟩
def ij_chL : mI := (RJ1, cJ1_charAt_3b067, 2, some .char, false)
theorem jm_chL : jMt yJ1_charAt_3b067 ij_chL 2 := ⟨kt_391, kt_11, (by decide : 2 ≤ 45), by decide +kernel⟩
def ij_pre : mI := (RJ3, cJ3_checkIndex_8e157, 3, some .int, false)
theorem jm_pre : jMt yJ3_checkIndex_8e157 ij_pre 3 := ⟨kt_399, kt_12, (by decide : 3 ≤ 45), by decide +kernel⟩
def ij_byt : mI := (RX8, cX8_byteAt, 2, some .int, false)
theorem jm_byt : jMt yX8_byteAt ij_byt 1 := ⟨kt_351, kt_4, (by decide : 2 ≤ 45), by decide +kernel⟩
def ij_spl : mI := (RX8, cX8_spells, 3, some .boolean, false)
theorem jm_spl : jMt yX8_spells ij_spl 1 := ⟨kt_370, kt_4, (by decide : 3 ≤ 45), by decide +kernel⟩
/-- the characters -/
def chK (i k : Nat) : Int := ((byK.getD i []).getD k 0).toInt
theorem lnK_ok : ∀ i, i < 14 → (Int32.ofNat (lnK.getD i 0) >>> (Int32.ofInt 0 &&& 31)) = Int32.ofInt ((lnK.getD i 0 : Nat) : Int) := by decide +kernel
theorem lnK_s : ∀ i, i < 14 → lnK.getD i 0 < 8 := by decide +kernel
theorem chK_ok : ∀ i, i < 14 → ∀ k, k < lnK.getD i 0 → ((((byK.getD i []).getD k 0) &&& 255).toUInt32 % 65536).toInt32 = Int32.ofInt (chK i k) ∧ narrow .char (.int (Int32.ofInt (chK i k))) = .int (Int32.ofInt (chK i k)) ∧ inR (chK i k) := by
  unfold inR
  decide +kernel
section JWK
variable {l : Launch} {G : mG} {M : mM} {i : Nat}
theorem w_coder (hi : i < 14) : jMet l G yJ0_coder_7d493 ij_coder 1 [.ref (G.2.2 (100 + i))] M (vi 0) := by
  refine j_of (d := 0) (by decide +kernel) rfl (Nat.le_of_ble_eq_true rfl) (fun p e s m below meth c ls hx hP hz hl => ?_)
  obtain ⟨h1, h2, h3, hr, hlk, hown, hts, hK, -, -⟩ := id hx
  obtain ⟨hZ, hZF, hE, -⟩ := id hK.2.2.2.2
  have hS : va_S (fun q => G.1 ≤ q) s.heap s.heap [] := va_S.rf
  refine va_gets h1 h2 hZ hS hown (hts _ kt_379) (fun _ h => h) dJ0_coder_7d493_0 ?_
  refine lv_if_eq (tgt := 13) h1 h2 dJ0_coder_7d493_3 (by decide) (fun q => absurd q (by decide)) (fun _ => ?_)
  refine lv_aload_n h1 h2 dJ0_coder_7d493_6 rfl (lv_at hl 0 rfl) ?_
  refine vk_getf h1 h2 (hE.1 i hi).2.1 hS hown (hts _ kt_1511) (fun _ h => h) dJ0_coder_7d493_7 ?_
  refine lv_goto (tgt := 14) h1 h2 dJ0_coder_7d493_10 (by decide) ?_
  exact W.zret (v := Int32.ofInt 0) h1 h2 hr rfl (fun t ht hW => m_end hP hz hS hK ht hW) hS.2.2 dJ0_coder_7d493_14 hlk
theorem w_lat (hi : i < 14) : jMet l G yJ0_isLatin1_aae02 ij_lat 1 [.ref (G.2.2 (100 + i))] M (vi 1) := by
  refine j_of (d := 0) (by decide +kernel) rfl (Nat.le_of_ble_eq_true rfl) (fun p e s m below meth c ls hx hP hz hl => ?_)
  obtain ⟨h1, h2, h3, hr, hlk, hown, hts, hK, -, -⟩ := id hx
  obtain ⟨hZ, hZF, hE, -⟩ := id hK.2.2.2.2
  have hS : va_S (fun q => G.1 ≤ q) s.heap s.heap [] := va_S.rf
  refine va_gets h1 h2 hZ hS hown (hts _ kt_379) (fun _ h => h) dJ0_isLatin1_aae02_0 ?_
  refine lv_if_eq (tgt := 17) h1 h2 dJ0_isLatin1_aae02_3 (by decide) (fun q => absurd q (by decide)) (fun _ => ?_)
  refine lv_aload_n h1 h2 dJ0_isLatin1_aae02_6 rfl (lv_at hl 0 rfl) ?_
  refine vk_getf h1 h2 (hE.1 i hi).2.1 hS hown (hts _ kt_1511) (fun _ h => h) dJ0_isLatin1_aae02_7 ?_
  refine lv_if_ne (tgt := 17) h1 h2 dJ0_isLatin1_aae02_10 (by decide) (fun q => absurd rfl q) (fun _ => ?_)
  refine lv_iconst h1 h2 dJ0_isLatin1_aae02_13 rfl ?_
  refine lv_goto (tgt := 18) h1 h2 dJ0_isLatin1_aae02_14 (by decide) ?_
  exact W.zret (v := Int32.ofInt 1) h1 h2 hr rfl (fun t ht hW => m_end hP hz hS hK ht hW) hS.2.2 dJ0_isLatin1_aae02_18 hlk
theorem w_pre {k n : Int} {q : Nat} (hk : 0 ≤ k) (hn : k < n) (hr1 : inR k) (hr2 : inR n) : jMet l G yJ3_checkIndex_8e157 ij_pre 1 [.int (Int32.ofInt k), .int (Int32.ofInt n), .ref q] M (vi k) := by
  refine j_of (d := 0) (by decide +kernel) rfl (Nat.le_of_ble_eq_true rfl) (fun p e s m below meth c ls hx hP hz hl => ?_)
  obtain ⟨h1, h2, h3, hr, hlk, hown, hts, hK, -, -⟩ := id hx
  obtain ⟨hZ, hZF, hE, -⟩ := id hK.2.2.2.2
  have hS : va_S (fun q => G.1 ≤ q) s.heap s.heap [] := va_S.rf
  refine lv_iload_n h1 h2 dJ3_checkIndex_8e157_0 rfl (lv_at hl 0 rfl) ?_
  refine lv_if_lt (tgt := 9) h1 h2 dJ3_checkIndex_8e157_1 (by decide) (fun q => absurd q (by rw [i32_z, i32_lt hr1 inR_0]; omega)) (fun _ => ?_)
  refine lv_iload_n h1 h2 dJ3_checkIndex_8e157_4 rfl (lv_at hl 0 rfl) ?_
  refine lv_iload_n h1 h2 dJ3_checkIndex_8e157_5 rfl (lv_at hl 1 rfl) ?_
  refine lv_icmp_lt (tgt := 16) h1 h2 dJ3_checkIndex_8e157_6 (by decide) (fun _ => ?_) (fun q => absurd ((i32_lt hr1 hr2).mpr hn) q)
  refine lv_iload_n h1 h2 dJ3_checkIndex_8e157_16 rfl (lv_at hl 0 rfl) ?_
  exact W.iret (v := Int32.ofInt k) h1 h2 hr (fun t ht hW => m_end hP hz hS hK ht hW) hS.2.2 dJ3_checkIndex_8e157_17 hlk
theorem w_preN {k n : Int} (hk : 0 ≤ k) (hn : k < n) (hr1 : inR k) (hr2 : inR n) : jMet l G yJ3_checkIndex_8e157 ij_pre 1 [.int (Int32.ofInt k), .int (Int32.ofInt n), .null] M (vi k) := by
  refine j_of (d := 0) (by decide +kernel) rfl (Nat.le_of_ble_eq_true rfl) (fun p e s m below meth c ls hx hP hz hl => ?_)
  obtain ⟨h1, h2, h3, hr, hlk, hown, hts, hK, -, -⟩ := id hx
  obtain ⟨hZ, hZF, hE, -⟩ := id hK.2.2.2.2
  have hS : va_S (fun q => G.1 ≤ q) s.heap s.heap [] := va_S.rf
  refine lv_iload_n h1 h2 dJ3_checkIndex_8e157_0 rfl (lv_at hl 0 rfl) ?_
  refine lv_if_lt (tgt := 9) h1 h2 dJ3_checkIndex_8e157_1 (by decide) (fun q => absurd q (by rw [i32_z, i32_lt hr1 inR_0]; omega)) (fun _ => ?_)
  refine lv_iload_n h1 h2 dJ3_checkIndex_8e157_4 rfl (lv_at hl 0 rfl) ?_
  refine lv_iload_n h1 h2 dJ3_checkIndex_8e157_5 rfl (lv_at hl 1 rfl) ?_
  refine lv_icmp_lt (tgt := 16) h1 h2 dJ3_checkIndex_8e157_6 (by decide) (fun _ => ?_) (fun q => absurd ((i32_lt hr1 hr2).mpr hn) q)
  refine lv_iload_n h1 h2 dJ3_checkIndex_8e157_16 rfl (lv_at hl 0 rfl) ?_
  exact W.iret (v := Int32.ofInt k) h1 h2 hr (fun t ht hW => m_end hP hz hS hK ht hW) hS.2.2 dJ3_checkIndex_8e157_17 hlk
theorem w_chk {k n : Int} (hk : 0 ≤ k) (hn : k < n) (hr1 : inR k) (hr2 : inR n) : jMet l G yJ0_checkIndex_df160 ij_chk 2 [.int (Int32.ofInt k), .int (Int32.ofInt n)] M vj := by
  refine j_of (d := 1) (by decide +kernel) rfl (Nat.le_of_ble_eq_true rfl) (fun p e s m below meth c ls hx hP hz hl => ?_)
  obtain ⟨h1, h2, h3, hr, hlk, hown, hts, hK, -, -⟩ := id hx
  obtain ⟨hZ, hZF, hE, -⟩ := id hK.2.2.2.2
  have hS : va_S (fun q => G.1 ≤ q) s.heap s.heap [] := va_S.rf
  refine lv_iload_n h1 h2 dJ0_checkIndex_df160_0 rfl (lv_at hl 0 rfl) ?_
  refine lv_iload_n h1 h2 dJ0_checkIndex_df160_1 rfl (lv_at hl 1 rfl) ?_
  rcases hZF with ⟨qF, hZF⟩ | hZF
  · refine va_gets h1 h2 hZF hS hown (hts _ kt_395) (fun _ h => h) dJ0_checkIndex_df160_2 ?_
    refine j_callS hx (vs := [.int (Int32.ofInt k), .int (Int32.ofInt n), .ref qF]) (rest := []) (w_pre hk hn hr1 hr2) (by decide) jm_pre kt_397 kt_398 dJ0_checkIndex_df160_5 rfl hP hz hS hl.1 (Nat.le_of_ble_eq_true rfl) rfl (Nat.zero_le _) (Nat.zero_le _) (fun H locs hP hz hS => ?_)
    refine lv_pop h1 h2 dJ0_checkIndex_df160_8 rfl ?_
    exact W.vret h1 h2 hr (fun t ht hW => m_end hP hz hS hK ht hW) hS.2.2 dJ0_checkIndex_df160_9 hlk
  · refine va_gets h1 h2 hZF hS hown (hts _ kt_395) (fun _ h => h) dJ0_checkIndex_df160_2 ?_
    refine j_callS hx (vs := [.int (Int32.ofInt k), .int (Int32.ofInt n), .null]) (rest := []) (w_preN hk hn hr1 hr2) (by decide) jm_pre kt_397 kt_398 dJ0_checkIndex_df160_5 rfl hP hz hS hl.1 (Nat.le_of_ble_eq_true rfl) rfl (Nat.zero_le _) (Nat.zero_le _) (fun H locs hP hz hS => ?_)
    refine lv_pop h1 h2 dJ0_checkIndex_df160_8 rfl ?_
    exact W.vret h1 h2 hr (fun t ht hW => m_end hP hz hS hK ht hW) hS.2.2 dJ0_checkIndex_df160_9 hlk
theorem w_chL (hi : i < 14) {k : Nat} (hk : k < lnK.getD i 0) : jMet l G yJ1_charAt_3b067 ij_chL 3 [.ref (G.2.2 (200 + i)), .int (Int32.ofInt (k : Int))] M (vi (chK i k)) := by
  refine j_of (d := 2) (by decide +kernel) rfl (Nat.le_of_ble_eq_true rfl) (fun p e s m below meth c ls hx hP hz hl => ?_)
  obtain ⟨h1, h2, h3, hr, hlk, hown, hts, hK, -, -⟩ := id hx
  obtain ⟨hZ, hZF, hE, -⟩ := id hK.2.2.2.2
  have hS : va_S (fun q => G.1 ≤ q) s.heap s.heap [] := va_S.rf
  have h8 := lnK_s i hi
  have hT := (hE.1 i hi).2.2.2
  refine lv_iload_n h1 h2 dJ1_charAt_3b067_0 rfl (lv_at hl 1 rfl) ?_
  refine lv_aload_n h1 h2 dJ1_charAt_3b067_1 rfl (lv_at hl 0 rfl) ?_
  refine va_tlen (v := Int32.ofInt ((lnK.getD i 0 : Nat) : Int)) h1 h2 hT hS Int32.ofInt_eq_ofNat.symm dJ1_charAt_3b067_2 ?_
  refine j_callS hx (vs := [.int (Int32.ofInt (k : Int)), .int (Int32.ofInt ((lnK.getD i 0 : Nat) : Int))]) (rest := []) (w_chk (by omega) (by omega) ⟨by omega, by omega⟩ ⟨by omega, by omega⟩) (by decide) jm_chk kt_392 kt_393 dJ1_charAt_3b067_3 rfl hP hz hS hl.1 (Nat.le_of_ble_eq_true rfl) rfl (Nat.zero_le _) (Nat.zero_le _) (fun H locs hP hz hS => ?_)
  refine lv_aload_n h1 h2 dJ1_charAt_3b067_6 rfl (lv_at hl 0 rfl) ?_
  refine lv_iload_n h1 h2 dJ1_charAt_3b067_7 rfl (lv_at hl 1 rfl) ?_
  refine va_tb (v := .int ((byK.getD i []).getD k 0)) h1 h2 hT hS (i32_in ⟨by omega, by omega⟩ (by omega) (by omega)) (by rw [i32_nat ⟨by omega, by omega⟩]; rfl) dJ1_charAt_3b067_8 ?_
  refine lv_sipush (v := 255) h1 h2 dJ1_charAt_3b067_9 (by decide) ?_
  refine lv_iand h1 h2 dJ1_charAt_3b067_12 ?_
  refine lv_i2c (v := Int32.ofInt (chK i k)) h1 h2 dJ1_charAt_3b067_13 (chK_ok i hi k hk).1 ?_
  exact W.zret (v := Int32.ofInt (chK i k)) h1 h2 hr (chK_ok i hi k hk).2.1 (fun t ht hW => m_end hP hz hS hK ht hW) hS.2.2 dJ1_charAt_3b067_14 hlk
theorem w_len (hi : i < 14) : jMet l G yJ0_length_8abf5 ij_length 2 [.ref (G.2.2 (100 + i))] M (vi ((lnK.getD i 0 : Nat) : Int)) := by
  refine j_of (d := 1) (by decide +kernel) rfl (Nat.le_of_ble_eq_true rfl) (fun p e s m below meth c ls hx hP hz hl => ?_)
  obtain ⟨h1, h2, h3, hr, hlk, hown, hts, hK, -, -⟩ := id hx
  obtain ⟨hZ, hZF, hE, -⟩ := id hK.2.2.2.2
  have hS : va_S (fun q => G.1 ≤ q) s.heap s.heap [] := va_S.rf
  refine lv_aload_n h1 h2 dJ0_length_8abf5_0 rfl (lv_at hl 0 rfl) ?_
  refine vk_getf h1 h2 (hE.1 i hi).2.2.1 hS hown (hts _ kt_1510) (fun _ h => h) dJ0_length_8abf5_1 ?_
  refine va_tlen (v := Int32.ofNat (lnK.getD i 0)) h1 h2 (hE.1 i hi).2.2.2 hS rfl dJ0_length_8abf5_4 ?_
  refine lv_aload_n h1 h2 dJ0_length_8abf5_5 rfl (lv_at hl 0 rfl) ?_
  refine j_callV hx (b := G.2.2 (100 + i)) (vs := []) (rest := [.int (Int32.ofNat (lnK.getD i 0))]) (w_coder hi) (by decide) jm_coder kt_375 kt_376 kt_377 (vk_recv (adK := fun i => G.2.2 (100 + i)) (i := i) hE hi hS) dJ0_length_8abf5_6 rfl hP hz hS hl.1 (Nat.le_of_ble_eq_true rfl) rfl (Nat.zero_le _) (Nat.zero_le _) (fun H locs hP hz hS => ?_)
  refine lv_ishr (x := Int32.ofNat (lnK.getD i 0)) (y := Int32.ofInt 0) h1 h2 dJ0_length_8abf5_9 ?_
  rw [lnK_ok i hi]
  exact W.iret (v := Int32.ofInt ((lnK.getD i 0 : Nat) : Int)) h1 h2 hr (fun t ht hW => m_end hP hz hS hK ht hW) hS.2.2 dJ0_length_8abf5_10 hlk
theorem w_chr (hi : i < 14) {k : Nat} (hk : k < lnK.getD i 0) : jMet l G yJ0_charAt_5068e ij_chr 4 [.ref (G.2.2 (100 + i)), .int (Int32.ofInt (k : Int))] M (vi (chK i k)) := by
  refine j_of (d := 3) (by decide +kernel) rfl (Nat.le_of_ble_eq_true rfl) (fun p e s m below meth c ls hx hP hz hl => ?_)
  obtain ⟨h1, h2, h3, hr, hlk, hown, hts, hK, -, -⟩ := id hx
  obtain ⟨hZ, hZF, hE, -⟩ := id hK.2.2.2.2
  have hS : va_S (fun q => G.1 ≤ q) s.heap s.heap [] := va_S.rf
  refine lv_aload_n h1 h2 dJ0_charAt_5068e_0 rfl (lv_at hl 0 rfl) ?_
  refine j_callV hx (b := G.2.2 (100 + i)) (vs := []) (rest := []) (w_lat hi) (by decide) jm_lat kt_385 kt_386 kt_387 (vk_recv (adK := fun i => G.2.2 (100 + i)) (i := i) hE hi hS) dJ0_charAt_5068e_1 rfl hP hz hS hl.1 (Nat.le_of_ble_eq_true rfl) rfl (Nat.zero_le _) (Nat.zero_le _) (fun H locs hP hz hS => ?_)
  refine lv_if_eq (x := Int32.ofInt 1) (tgt := 16) h1 h2 dJ0_charAt_5068e_4 (by decide) (fun q => absurd q (by decide)) (fun _ => ?_)
  refine lv_aload_n h1 h2 dJ0_charAt_5068e_7 rfl (lv_at hl 0 rfl) ?_
  refine vk_getf h1 h2 (hE.1 i hi).2.2.1 hS hown (hts _ kt_1510) (fun _ h => h) dJ0_charAt_5068e_8 ?_
  refine lv_iload_n h1 h2 dJ0_charAt_5068e_11 rfl (lv_at hl 1 rfl) ?_
  refine j_callS hx (vs := [.ref (G.2.2 (200 + i)), .int (Int32.ofInt (k : Int))]) (rest := []) (w_chL hi hk) (by decide) jm_chL kt_389 kt_390 dJ0_charAt_5068e_12 rfl hP hz hS hl.1 (Nat.le_of_ble_eq_true rfl) rfl (Nat.zero_le _) (Nat.zero_le _) (fun H locs hP hz hS => ?_)
  exact W.zret (v := Int32.ofInt (chK i k)) h1 h2 hr (chK_ok i hi k hk).2.1 (fun t ht hW => m_end hP hz hS hK ht hW) hS.2.2 dJ0_charAt_5068e_15 hlk
end JWK
