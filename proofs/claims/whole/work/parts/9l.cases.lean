section LWC
variable {p : Program} {l : Launch} {e : Jvm.Env} {s : State} {m : MethodId} {below : List Frame} {meth : Method} {c : Code} {b L : Nat} {xs : Nat → Int32} {G : mG} {H : Heap} {locs : List Loc} {lm : Array Slot} {Q : State → Prop} {i : Nat}
/-- the law's locals at the loop's head -/
def LV (G : mG) (b i : Nat) (lm : Array Slot) : Prop := lv_has lm 4 [(3, .int (nI i)), (2, .ref (G.1 + 35)), (1, .ref (G.1 + 0)), (0, .ref b)]
theorem lw_mid (l : Launch) (G : mG) {M : mM} {r1 r2 : mV × mM} {y y' : Nat} {AS : List mV} (hwf : mWf M) (hc1 : mc 19 y (vr (some 0) :: AS) M r1) (hc2 : mc 19 y' (vr (some 35) :: AS) r1.2 r2) (oa : ∀ v ∈ AS, okV v) (hI : INV M) (hG : GROW M r2.2) : nx r1.2 ≤ nx M + 614 ∧ zs r1.2 ≤ zs M + 12280 ∧ nx r2.2 ≤ nx M + 614 ∧ zs r2.2 ≤ zs M + 12280 ∧ kd r1.2 35 = 12 := by
  have o2 : ∀ (a : Nat) (v : mV), v ∈ vr (some a) :: AS → okV v := fun a v hv => by
    rcases List.mem_cons.mp hv with rfl | hv
    · trivial
    · exact oa v hv
  obtain ⟨w1, -, -, -, -⟩ := m_good sys_full l G 19 y _ M r1 hc1 (o2 0) hwf
  obtain ⟨-, n2, s2, -, -⟩ := m_good sys_full l G 19 y' _ r1.2 r2 hc2 (o2 35) w1
  have hk : kd M 35 = 12 := hk35 hI.1.1
  have h35 : 35 < nx M := mLt hwf hk (by decide)
  have hkk := (kq_mc 19 _ _ _ _ hc1).2 35 h35
  unfold GROW at hG
  exact ⟨by omega, by omega, by omega, by omega, hkk.trans hk⟩
theorem lc_0 (C0 : LX p s m c b L xs G) {M : mM} (hI : INV M) (hA : LA G M s H locs) (hV : LV G b i lm) (hi : i + 8 ≤ L) (hL : L ≤ 4096) (hb1 : nx M + 614 ≤ 600000) (hb2 : zs M + 12280 ≤ 7302250)
    (kk : ∀ (M' : mM) (H' : Heap) (locs' : List Loc), INV M' → LA G M' s H' locs' → GROW M M' → W p l e room_1 s m #[.ref b] below meth c H' locs' (nx M') (zs M') Q (F0 m 784 lm [])) : W p l e room_1 s m #[.ref b] below meth c H locs (nx M) (zs M) Q (F0 m 120 lm []) := by
  have hsz := hV.1
  have h3 := lv_at hV 0 rfl
  have h2 := lv_at hV 1 rfl
  have h1 := lv_at hV 2 rfl
  have h0 := lv_at hV 3 rfl
  have oa : ∀ v ∈ ([vi (xs (i + 1)).toInt, vi (xs (i + 2)).toInt, vi (xs (i + 3)).toInt, vi (xs (i + 4)).toInt, vi (xs (i + 5)).toInt] : List mV), okV v := by
    intro v hv
    simp only [List.mem_cons, List.not_mem_nil, or_false] at hv
    rcases hv with rfl | rfl | rfl | rfl | rfl
    · exact inR_toInt _
    · exact inR_toInt _
    · exact inR_toInt _
    · exact inR_toInt _
    · exact inR_toInt _
  obtain ⟨r1, hc1, z, hv1, r2, hc2, hv2, hI2, hG⟩ := (p_feed' (xs (i + 1)).toInt (xs (i + 2)).toInt (xs (i + 3)).toInt (xs (i + 4)).toInt (xs (i + 5)).toInt) M hI
  obtain ⟨q1, q2, q3, q4, HK2⟩ := lw_mid l G hA.2.2.2 hc1 hc2 oa hI hG
  have HK1 : kd M 0 = 11 := hk0 hI.1.1
  refine lv_aload_n C0.1 C0.2.1 dl_120 rfl h1 ?_
  refine lw_arg (k := 1) C0 hA h0 h3 hi hL (by omega) dl_121 dl_122 dl_123 dl_124 dl_125 ?_
  refine lw_arg (k := 2) C0 hA h0 h3 hi hL (by omega) dl_126 dl_127 dl_128 dl_129 dl_130 ?_
  refine lw_arg (k := 3) C0 hA h0 h3 hi hL (by omega) dl_131 dl_132 dl_133 dl_134 dl_135 ?_
  refine lw_arg (k := 4) C0 hA h0 h3 hi hL (by omega) dl_136 dl_137 dl_138 dl_139 dl_140 ?_
  refine lw_arg (k := 5) C0 hA h0 h3 hi hL (by omega) dl_141 dl_142 dl_143 dl_144 dl_145 ?_
  refine lw_callV (z := z) (a := 0) (as := ([vi (xs (i + 1)).toInt, vi (xs (i + 2)).toInt, vi (xs (i + 3)).toInt, vi (xs (i + 4)).toInt, vi (xs (i + 5)).toInt] : List mV)) (rest := []) C0 mCl_11 mt_102 kt_312 kt_313 kt_314 dl_146 rfl HK1 hc1 hv1 oa hA hsz (Nat.le_of_ble_eq_true rfl) rfl (by omega) (by omega) (fun H1 locs1 hA => ?_)
  refine lv_aload_n C0.1 C0.2.1 dl_149 rfl h2 ?_
  refine lw_arg (k := 1) C0 hA h0 h3 hi hL (by omega) dl_150 dl_151 dl_152 dl_153 dl_154 ?_
  refine lw_arg (k := 2) C0 hA h0 h3 hi hL (by omega) dl_155 dl_156 dl_157 dl_158 dl_159 ?_
  refine lw_arg (k := 3) C0 hA h0 h3 hi hL (by omega) dl_160 dl_161 dl_162 dl_163 dl_164 ?_
  refine lw_arg (k := 4) C0 hA h0 h3 hi hL (by omega) dl_165 dl_166 dl_167 dl_168 dl_169 ?_
  refine lw_arg (k := 5) C0 hA h0 h3 hi hL (by omega) dl_170 dl_171 dl_172 dl_173 dl_174 ?_
  refine lw_callV (z := z) (a := 35) (as := ([vi (xs (i + 1)).toInt, vi (xs (i + 2)).toInt, vi (xs (i + 3)).toInt, vi (xs (i + 4)).toInt, vi (xs (i + 5)).toInt] : List mV)) (rest := [.int (Int32.ofInt z)]) C0 mCl_12 mt_123 kt_1285 kt_1286 kt_1287 dl_175 rfl HK2 hc2 hv2 oa hA hsz (Nat.le_of_ble_eq_true rfl) rfl (by omega) (by omega) (fun H2 locs2 hA => ?_)
  refine lv_icmp_eq (tgt := 784) C0.1 C0.2.1 dl_178 (by decide) (fun _ => kk _ _ _ hI2 hA hG) (fun q => absurd rfl q)
theorem lc_1 (C0 : LX p s m c b L xs G) {M : mM} (hI : INV M) (hA : LA G M s H locs) (hV : LV G b i lm) (hi : i + 8 ≤ L) (hL : L ≤ 4096) (hb1 : nx M + 614 ≤ 600000) (hb2 : zs M + 12280 ≤ 7302250)
    (kk : ∀ (M' : mM) (H' : Heap) (locs' : List Loc), INV M' → LA G M' s H' locs' → GROW M M' → W p l e room_1 s m #[.ref b] below meth c H' locs' (nx M') (zs M') Q (F0 m 784 lm [])) : W p l e room_1 s m #[.ref b] below meth c H locs (nx M) (zs M) Q (F0 m 183 lm []) := by
  have hsz := hV.1
  have h3 := lv_at hV 0 rfl
  have h2 := lv_at hV 1 rfl
  have h1 := lv_at hV 2 rfl
  have h0 := lv_at hV 3 rfl
  have oa : ∀ v ∈ ([vi (xs (i + 1)).toInt] : List mV), okV v := by
    intro v hv
    simp only [List.mem_cons, List.not_mem_nil, or_false] at hv
    rcases hv with rfl
    · exact inR_toInt _
  obtain ⟨r1, hc1, z, hv1, r2, hc2, hv2, hI2, hG⟩ := (p_back (xs (i + 1)).toInt) M hI
  obtain ⟨q1, q2, q3, q4, HK2⟩ := lw_mid l G hA.2.2.2 hc1 hc2 oa hI hG
  have HK1 : kd M 0 = 11 := hk0 hI.1.1
  refine lv_aload_n C0.1 C0.2.1 dl_183 rfl h1 ?_
  refine lw_arg (k := 1) C0 hA h0 h3 hi hL (by omega) dl_184 dl_185 dl_186 dl_187 dl_188 ?_
  refine lw_callV (z := z) (a := 0) (as := ([vi (xs (i + 1)).toInt] : List mV)) (rest := []) C0 mCl_11 mt_103 kt_320 kt_321 kt_322 dl_189 rfl HK1 hc1 hv1 oa hA hsz (Nat.le_of_ble_eq_true rfl) rfl (by omega) (by omega) (fun H1 locs1 hA => ?_)
  refine lv_aload_n C0.1 C0.2.1 dl_192 rfl h2 ?_
  refine lw_arg (k := 1) C0 hA h0 h3 hi hL (by omega) dl_193 dl_194 dl_195 dl_196 dl_197 ?_
  refine lw_callV (z := z) (a := 35) (as := ([vi (xs (i + 1)).toInt] : List mV)) (rest := [.int (Int32.ofInt z)]) C0 mCl_12 mt_125 kt_1293 kt_1294 kt_1295 dl_198 rfl HK2 hc2 hv2 oa hA hsz (Nat.le_of_ble_eq_true rfl) rfl (by omega) (by omega) (fun H2 locs2 hA => ?_)
  refine lv_icmp_eq (tgt := 784) C0.1 C0.2.1 dl_201 (by decide) (fun _ => kk _ _ _ hI2 hA hG) (fun q => absurd rfl q)
theorem lc_2 (C0 : LX p s m c b L xs G) {M : mM} (hI : INV M) (hA : LA G M s H locs) (hV : LV G b i lm) (hi : i + 8 ≤ L) (hL : L ≤ 4096) (hb1 : nx M + 614 ≤ 600000) (hb2 : zs M + 12280 ≤ 7302250)
    (kk : ∀ (M' : mM) (H' : Heap) (locs' : List Loc), INV M' → LA G M' s H' locs' → GROW M M' → W p l e room_1 s m #[.ref b] below meth c H' locs' (nx M') (zs M') Q (F0 m 784 lm [])) : W p l e room_1 s m #[.ref b] below meth c H locs (nx M) (zs M) Q (F0 m 206 lm []) := by
  have hsz := hV.1
  have h3 := lv_at hV 0 rfl
  have h2 := lv_at hV 1 rfl
  have h1 := lv_at hV 2 rfl
  have h0 := lv_at hV 3 rfl
  have oa : ∀ v ∈ ([] : List mV), okV v := by
    intro v hv
    cases hv
  obtain ⟨r1, hc1, z, hv1, r2, hc2, hv2, hI2, hG⟩ := p_read M hI
  obtain ⟨q1, q2, q3, q4, HK2⟩ := lw_mid l G hA.2.2.2 hc1 hc2 oa hI hG
  have HK1 : kd M 0 = 11 := hk0 hI.1.1
  refine lv_aload_n C0.1 C0.2.1 dl_206 rfl h1 ?_
  refine lw_callV (z := z) (a := 0) (as := ([] : List mV)) (rest := []) C0 mCl_11 mt_104 kt_324 kt_325 kt_326 dl_207 rfl HK1 hc1 hv1 oa hA hsz (Nat.le_of_ble_eq_true rfl) rfl (by omega) (by omega) (fun H1 locs1 hA => ?_)
  refine lv_aload_n C0.1 C0.2.1 dl_210 rfl h2 ?_
  refine lw_callV (z := z) (a := 35) (as := ([] : List mV)) (rest := [.int (Int32.ofInt z)]) C0 mCl_12 mt_139 kt_1297 kt_1298 kt_1299 dl_211 rfl HK2 hc2 hv2 oa hA hsz (Nat.le_of_ble_eq_true rfl) rfl (by omega) (by omega) (fun H2 locs2 hA => ?_)
  refine lv_icmp_eq (tgt := 784) C0.1 C0.2.1 dl_214 (by decide) (fun _ => kk _ _ _ hI2 hA hG) (fun q => absurd rfl q)
theorem lc_3 (C0 : LX p s m c b L xs G) {M : mM} (hI : INV M) (hA : LA G M s H locs) (hV : LV G b i lm) (hi : i + 8 ≤ L) (hL : L ≤ 4096) (hb1 : nx M + 614 ≤ 600000) (hb2 : zs M + 12280 ≤ 7302250)
    (kk : ∀ (M' : mM) (H' : Heap) (locs' : List Loc), INV M' → LA G M' s H' locs' → GROW M M' → W p l e room_1 s m #[.ref b] below meth c H' locs' (nx M') (zs M') Q (F0 m 784 lm [])) : W p l e room_1 s m #[.ref b] below meth c H locs (nx M) (zs M) Q (F0 m 219 lm []) := by
  have hsz := hV.1
  have h3 := lv_at hV 0 rfl
  have h2 := lv_at hV 1 rfl
  have h1 := lv_at hV 2 rfl
  have h0 := lv_at hV 3 rfl
  have oa : ∀ v ∈ ([] : List mV), okV v := by
    intro v hv
    cases hv
  obtain ⟨r1, hc1, z, hv1, r2, hc2, hv2, hI2, hG⟩ := p_place M hI
  obtain ⟨q1, q2, q3, q4, HK2⟩ := lw_mid l G hA.2.2.2 hc1 hc2 oa hI hG
  have HK1 : kd M 0 = 11 := hk0 hI.1.1
  refine lv_aload_n C0.1 C0.2.1 dl_219 rfl h1 ?_
  refine lw_callV (z := z) (a := 0) (as := ([] : List mV)) (rest := []) C0 mCl_11 mt_105 kt_519 kt_520 kt_521 dl_220 rfl HK1 hc1 hv1 oa hA hsz (Nat.le_of_ble_eq_true rfl) rfl (by omega) (by omega) (fun H1 locs1 hA => ?_)
  refine lv_aload_n C0.1 C0.2.1 dl_223 rfl h2 ?_
  refine lw_callV (z := z) (a := 35) (as := ([] : List mV)) (rest := [.int (Int32.ofInt z)]) C0 mCl_12 mt_140 kt_1363 kt_1364 kt_1365 dl_224 rfl HK2 hc2 hv2 oa hA hsz (Nat.le_of_ble_eq_true rfl) rfl (by omega) (by omega) (fun H2 locs2 hA => ?_)
  refine lv_icmp_eq (tgt := 784) C0.1 C0.2.1 dl_227 (by decide) (fun _ => kk _ _ _ hI2 hA hG) (fun q => absurd rfl q)
theorem lc_4 (C0 : LX p s m c b L xs G) {M : mM} (hI : INV M) (hA : LA G M s H locs) (hV : LV G b i lm) (hi : i + 8 ≤ L) (hL : L ≤ 4096) (hb1 : nx M + 614 ≤ 600000) (hb2 : zs M + 12280 ≤ 7302250)
    (kk : ∀ (M' : mM) (H' : Heap) (locs' : List Loc), INV M' → LA G M' s H' locs' → GROW M M' → W p l e room_1 s m #[.ref b] below meth c H' locs' (nx M') (zs M') Q (F0 m 784 lm [])) : W p l e room_1 s m #[.ref b] below meth c H locs (nx M) (zs M) Q (F0 m 232 lm []) := by
  have hsz := hV.1
  have h3 := lv_at hV 0 rfl
  have h2 := lv_at hV 1 rfl
  have h1 := lv_at hV 2 rfl
  have h0 := lv_at hV 3 rfl
  have oa : ∀ v ∈ ([vi (xs (i + 1)).toInt] : List mV), okV v := by
    intro v hv
    simp only [List.mem_cons, List.not_mem_nil, or_false] at hv
    rcases hv with rfl
    · exact inR_toInt _
  obtain ⟨r1, hc1, z, hv1, r2, hc2, hv2, hI2, hG⟩ := (p_channels (xs (i + 1)).toInt) M hI
  obtain ⟨q1, q2, q3, q4, HK2⟩ := lw_mid l G hA.2.2.2 hc1 hc2 oa hI hG
  have HK1 : kd M 0 = 11 := hk0 hI.1.1
  refine lv_aload_n C0.1 C0.2.1 dl_232 rfl h1 ?_
  refine lw_arg (k := 1) C0 hA h0 h3 hi hL (by omega) dl_233 dl_234 dl_235 dl_236 dl_237 ?_
  refine lw_callV (z := z) (a := 0) (as := ([vi (xs (i + 1)).toInt] : List mV)) (rest := []) C0 mCl_11 mt_106 kt_523 kt_524 kt_525 dl_238 rfl HK1 hc1 hv1 oa hA hsz (Nat.le_of_ble_eq_true rfl) rfl (by omega) (by omega) (fun H1 locs1 hA => ?_)
  refine lv_aload_n C0.1 C0.2.1 dl_241 rfl h2 ?_
  refine lw_arg (k := 1) C0 hA h0 h3 hi hL (by omega) dl_242 dl_243 dl_244 dl_245 dl_246 ?_
  refine lw_callV (z := z) (a := 35) (as := ([vi (xs (i + 1)).toInt] : List mV)) (rest := [.int (Int32.ofInt z)]) C0 mCl_12 mt_149 kt_1367 kt_1368 kt_1369 dl_247 rfl HK2 hc2 hv2 oa hA hsz (Nat.le_of_ble_eq_true rfl) rfl (by omega) (by omega) (fun H2 locs2 hA => ?_)
  refine lv_icmp_eq (tgt := 784) C0.1 C0.2.1 dl_250 (by decide) (fun _ => kk _ _ _ hI2 hA hG) (fun q => absurd rfl q)
theorem lc_5 (C0 : LX p s m c b L xs G) {M : mM} (hI : INV M) (hA : LA G M s H locs) (hV : LV G b i lm) (hi : i + 8 ≤ L) (hL : L ≤ 4096) (hb1 : nx M + 614 ≤ 600000) (hb2 : zs M + 12280 ≤ 7302250)
    (kk : ∀ (M' : mM) (H' : Heap) (locs' : List Loc), INV M' → LA G M' s H' locs' → GROW M M' → W p l e room_1 s m #[.ref b] below meth c H' locs' (nx M') (zs M') Q (F0 m 784 lm [])) : W p l e room_1 s m #[.ref b] below meth c H locs (nx M) (zs M) Q (F0 m 255 lm []) := by
  have hsz := hV.1
  have h3 := lv_at hV 0 rfl
  have h2 := lv_at hV 1 rfl
  have h1 := lv_at hV 2 rfl
  have h0 := lv_at hV 3 rfl
  have oa : ∀ v ∈ ([vi (xs (i + 1)).toInt] : List mV), okV v := by
    intro v hv
    simp only [List.mem_cons, List.not_mem_nil, or_false] at hv
    rcases hv with rfl
    · exact inR_toInt _
  obtain ⟨r1, hc1, z, hv1, r2, hc2, hv2, hI2, hG⟩ := (p_source (xs (i + 1)).toInt) M hI
  obtain ⟨q1, q2, q3, q4, HK2⟩ := lw_mid l G hA.2.2.2 hc1 hc2 oa hI hG
  have HK1 : kd M 0 = 11 := hk0 hI.1.1
  refine lv_aload_n C0.1 C0.2.1 dl_255 rfl h1 ?_
  refine lw_arg (k := 1) C0 hA h0 h3 hi hL (by omega) dl_256 dl_257 dl_258 dl_259 dl_260 ?_
  refine lw_callV (z := z) (a := 0) (as := ([vi (xs (i + 1)).toInt] : List mV)) (rest := []) C0 mCl_11 mt_107 kt_527 kt_528 kt_529 dl_261 rfl HK1 hc1 hv1 oa hA hsz (Nat.le_of_ble_eq_true rfl) rfl (by omega) (by omega) (fun H1 locs1 hA => ?_)
  refine lv_aload_n C0.1 C0.2.1 dl_264 rfl h2 ?_
  refine lw_arg (k := 1) C0 hA h0 h3 hi hL (by omega) dl_265 dl_266 dl_267 dl_268 dl_269 ?_
  refine lw_callV (z := z) (a := 35) (as := ([vi (xs (i + 1)).toInt] : List mV)) (rest := [.int (Int32.ofInt z)]) C0 mCl_12 mt_150 kt_1371 kt_1372 kt_1373 dl_270 rfl HK2 hc2 hv2 oa hA hsz (Nat.le_of_ble_eq_true rfl) rfl (by omega) (by omega) (fun H2 locs2 hA => ?_)
  refine lv_icmp_eq (tgt := 784) C0.1 C0.2.1 dl_273 (by decide) (fun _ => kk _ _ _ hI2 hA hG) (fun q => absurd rfl q)
theorem lc_6 (C0 : LX p s m c b L xs G) {M : mM} (hI : INV M) (hA : LA G M s H locs) (hV : LV G b i lm) (hi : i + 8 ≤ L) (hL : L ≤ 4096) (hb1 : nx M + 614 ≤ 600000) (hb2 : zs M + 12280 ≤ 7302250)
    (kk : ∀ (M' : mM) (H' : Heap) (locs' : List Loc), INV M' → LA G M' s H' locs' → GROW M M' → W p l e room_1 s m #[.ref b] below meth c H' locs' (nx M') (zs M') Q (F0 m 784 lm [])) : W p l e room_1 s m #[.ref b] below meth c H locs (nx M) (zs M) Q (F0 m 278 lm []) := by
  have hsz := hV.1
  have h3 := lv_at hV 0 rfl
  have h2 := lv_at hV 1 rfl
  have h1 := lv_at hV 2 rfl
  have h0 := lv_at hV 3 rfl
  have oa : ∀ v ∈ ([vi (xs (i + 1)).toInt, vi (xs (i + 2)).toInt, vi (xs (i + 3)).toInt, vi (xs (i + 4)).toInt, vi (xs (i + 5)).toInt, vi (xs (i + 6)).toInt, vi (if (xs (i + 7)).toInt = 0 then 0 else 1)] : List mV), okV v := by
    intro v hv
    simp only [List.mem_cons, List.not_mem_nil, or_false] at hv
    rcases hv with rfl | rfl | rfl | rfl | rfl | rfl | rfl
    · exact inR_toInt _
    · exact inR_toInt _
    · exact inR_toInt _
    · exact inR_toInt _
    · exact inR_toInt _
    · exact inR_toInt _
    · show inR (if _ then 0 else 1)
      split <;> exact ⟨by decide, by decide⟩
  obtain ⟨r1, hc1, z, hv1, r2, hc2, hv2, hI2, hG⟩ := (p_notice (xs (i + 1)).toInt (xs (i + 2)).toInt (xs (i + 3)).toInt (xs (i + 4)).toInt (xs (i + 5)).toInt (xs (i + 6)).toInt (if (xs (i + 7)).toInt = 0 then 0 else 1) (by split <;> simp)) M hI
  obtain ⟨q1, q2, q3, q4, HK2⟩ := lw_mid l G hA.2.2.2 hc1 hc2 oa hI hG
  have HK1 : kd M 0 = 11 := hk0 hI.1.1
  refine lv_aload_n C0.1 C0.2.1 dl_278 rfl h1 ?_
  refine lw_arg (k := 1) C0 hA h0 h3 hi hL (by omega) dl_279 dl_280 dl_281 dl_282 dl_283 ?_
  refine lw_arg (k := 2) C0 hA h0 h3 hi hL (by omega) dl_284 dl_285 dl_286 dl_287 dl_288 ?_
  refine lw_arg (k := 3) C0 hA h0 h3 hi hL (by omega) dl_289 dl_290 dl_291 dl_292 dl_293 ?_
  refine lw_arg (k := 4) C0 hA h0 h3 hi hL (by omega) dl_294 dl_295 dl_296 dl_297 dl_298 ?_
  refine lw_arg (k := 5) C0 hA h0 h3 hi hL (by omega) dl_299 dl_300 dl_301 dl_302 dl_303 ?_
  refine lw_argb (k := 6) C0 hA h0 h3 hi hL (by omega) (by decide) dl_304 dl_305 dl_306 dl_308 dl_309 ?_
  refine lw_flag C0 hA h0 h3 hi hL dl_310 dl_311 dl_312 dl_314 dl_315 dl_316 dl_319 dl_320 dl_323 ?_
  refine lw_callV (z := z) (a := 0) (as := ([vi (xs (i + 1)).toInt, vi (xs (i + 2)).toInt, vi (xs (i + 3)).toInt, vi (xs (i + 4)).toInt, vi (xs (i + 5)).toInt, vi (xs (i + 6)).toInt, vi (if (xs (i + 7)).toInt = 0 then 0 else 1)] : List mV)) (rest := []) C0 mCl_11 mt_108 kt_554 kt_555 kt_556 dl_324 rfl HK1 hc1 hv1 oa hA hsz (Nat.le_of_ble_eq_true rfl) rfl (by omega) (by omega) (fun H1 locs1 hA => ?_)
  refine lv_aload_n C0.1 C0.2.1 dl_327 rfl h2 ?_
  refine lw_arg (k := 1) C0 hA h0 h3 hi hL (by omega) dl_328 dl_329 dl_330 dl_331 dl_332 ?_
  refine lw_arg (k := 2) C0 hA h0 h3 hi hL (by omega) dl_333 dl_334 dl_335 dl_336 dl_337 ?_
  refine lw_arg (k := 3) C0 hA h0 h3 hi hL (by omega) dl_338 dl_339 dl_340 dl_341 dl_342 ?_
  refine lw_arg (k := 4) C0 hA h0 h3 hi hL (by omega) dl_343 dl_344 dl_345 dl_346 dl_347 ?_
  refine lw_arg (k := 5) C0 hA h0 h3 hi hL (by omega) dl_348 dl_349 dl_350 dl_351 dl_352 ?_
  refine lw_argb (k := 6) C0 hA h0 h3 hi hL (by omega) (by decide) dl_353 dl_354 dl_355 dl_357 dl_358 ?_
  refine lw_flag C0 hA h0 h3 hi hL dl_359 dl_360 dl_361 dl_363 dl_364 dl_365 dl_368 dl_369 dl_372 ?_
  refine lw_callV (z := z) (a := 35) (as := ([vi (xs (i + 1)).toInt, vi (xs (i + 2)).toInt, vi (xs (i + 3)).toInt, vi (xs (i + 4)).toInt, vi (xs (i + 5)).toInt, vi (xs (i + 6)).toInt, vi (if (xs (i + 7)).toInt = 0 then 0 else 1)] : List mV)) (rest := [.int (Int32.ofInt z)]) C0 mCl_12 mt_151 kt_1375 kt_1376 kt_1377 dl_373 rfl HK2 hc2 hv2 oa hA hsz (Nat.le_of_ble_eq_true rfl) rfl (by omega) (by omega) (fun H2 locs2 hA => ?_)
  refine lv_icmp_eq (tgt := 784) C0.1 C0.2.1 dl_376 (by decide) (fun _ => kk _ _ _ hI2 hA hG) (fun q => absurd rfl q)
theorem lc_7 (C0 : LX p s m c b L xs G) {M : mM} (hI : INV M) (hA : LA G M s H locs) (hV : LV G b i lm) (hi : i + 8 ≤ L) (hL : L ≤ 4096) (hb1 : nx M + 614 ≤ 600000) (hb2 : zs M + 12280 ≤ 7302250)
    (kk : ∀ (M' : mM) (H' : Heap) (locs' : List Loc), INV M' → LA G M' s H' locs' → GROW M M' → W p l e room_1 s m #[.ref b] below meth c H' locs' (nx M') (zs M') Q (F0 m 784 lm [])) : W p l e room_1 s m #[.ref b] below meth c H locs (nx M) (zs M) Q (F0 m 381 lm []) := by
  have hsz := hV.1
  have h3 := lv_at hV 0 rfl
  have h2 := lv_at hV 1 rfl
  have h1 := lv_at hV 2 rfl
  have h0 := lv_at hV 3 rfl
  have oa : ∀ v ∈ ([vi (xs (i + 1)).toInt, vi (xs (i + 2)).toInt, vi (xs (i + 3)).toInt] : List mV), okV v := by
    intro v hv
    simp only [List.mem_cons, List.not_mem_nil, or_false] at hv
    rcases hv with rfl | rfl | rfl
    · exact inR_toInt _
    · exact inR_toInt _
    · exact inR_toInt _
  obtain ⟨r1, hc1, z, hv1, r2, hc2, hv2, hI2, hG⟩ := (p_over (xs (i + 1)).toInt (xs (i + 2)).toInt (xs (i + 3)).toInt) M hI
  obtain ⟨q1, q2, q3, q4, HK2⟩ := lw_mid l G hA.2.2.2 hc1 hc2 oa hI hG
  have HK1 : kd M 0 = 11 := hk0 hI.1.1
  refine lv_aload_n C0.1 C0.2.1 dl_381 rfl h1 ?_
  refine lw_arg (k := 1) C0 hA h0 h3 hi hL (by omega) dl_382 dl_383 dl_384 dl_385 dl_386 ?_
  refine lw_arg (k := 2) C0 hA h0 h3 hi hL (by omega) dl_387 dl_388 dl_389 dl_390 dl_391 ?_
  refine lw_arg (k := 3) C0 hA h0 h3 hi hL (by omega) dl_392 dl_393 dl_394 dl_395 dl_396 ?_
  refine lw_callV (z := z) (a := 0) (as := ([vi (xs (i + 1)).toInt, vi (xs (i + 2)).toInt, vi (xs (i + 3)).toInt] : List mV)) (rest := []) C0 mCl_11 mt_109 kt_607 kt_608 kt_609 dl_397 rfl HK1 hc1 hv1 oa hA hsz (Nat.le_of_ble_eq_true rfl) rfl (by omega) (by omega) (fun H1 locs1 hA => ?_)
  refine lv_aload_n C0.1 C0.2.1 dl_400 rfl h2 ?_
  refine lw_arg (k := 1) C0 hA h0 h3 hi hL (by omega) dl_401 dl_402 dl_403 dl_404 dl_405 ?_
  refine lw_arg (k := 2) C0 hA h0 h3 hi hL (by omega) dl_406 dl_407 dl_408 dl_409 dl_410 ?_
  refine lw_arg (k := 3) C0 hA h0 h3 hi hL (by omega) dl_411 dl_412 dl_413 dl_414 dl_415 ?_
  refine lw_callV (z := z) (a := 35) (as := ([vi (xs (i + 1)).toInt, vi (xs (i + 2)).toInt, vi (xs (i + 3)).toInt] : List mV)) (rest := [.int (Int32.ofInt z)]) C0 mCl_12 mt_152 kt_1383 kt_1384 kt_1385 dl_416 rfl HK2 hc2 hv2 oa hA hsz (Nat.le_of_ble_eq_true rfl) rfl (by omega) (by omega) (fun H2 locs2 hA => ?_)
  refine lv_icmp_eq (tgt := 784) C0.1 C0.2.1 dl_419 (by decide) (fun _ => kk _ _ _ hI2 hA hG) (fun q => absurd rfl q)
theorem lc_8 (C0 : LX p s m c b L xs G) {M : mM} (hI : INV M) (hA : LA G M s H locs) (hV : LV G b i lm) (hi : i + 8 ≤ L) (hL : L ≤ 4096) (hb1 : nx M + 614 ≤ 600000) (hb2 : zs M + 12280 ≤ 7302250)
    (kk : ∀ (M' : mM) (H' : Heap) (locs' : List Loc), INV M' → LA G M' s H' locs' → GROW M M' → W p l e room_1 s m #[.ref b] below meth c H' locs' (nx M') (zs M') Q (F0 m 784 lm [])) : W p l e room_1 s m #[.ref b] below meth c H locs (nx M) (zs M) Q (F0 m 424 lm []) := by
  have hsz := hV.1
  have h3 := lv_at hV 0 rfl
  have h2 := lv_at hV 1 rfl
  have h1 := lv_at hV 2 rfl
  have h0 := lv_at hV 3 rfl
  have oa : ∀ v ∈ ([vi (xs (i + 1)).toInt, vi (xs (i + 2)).toInt, vi (xs (i + 3)).toInt, vi (xs (i + 4)).toInt] : List mV), okV v := by
    intro v hv
    simp only [List.mem_cons, List.not_mem_nil, or_false] at hv
    rcases hv with rfl | rfl | rfl | rfl
    · exact inR_toInt _
    · exact inR_toInt _
    · exact inR_toInt _
    · exact inR_toInt _
  obtain ⟨r1, hc1, z, hv1, r2, hc2, hv2, hI2, hG⟩ := (p_recorder (xs (i + 1)).toInt (xs (i + 2)).toInt (xs (i + 3)).toInt (xs (i + 4)).toInt) M hI
  obtain ⟨q1, q2, q3, q4, HK2⟩ := lw_mid l G hA.2.2.2 hc1 hc2 oa hI hG
  have HK1 : kd M 0 = 11 := hk0 hI.1.1
  refine lv_aload_n C0.1 C0.2.1 dl_424 rfl h1 ?_
  refine lw_arg (k := 1) C0 hA h0 h3 hi hL (by omega) dl_425 dl_426 dl_427 dl_428 dl_429 ?_
  refine lw_arg (k := 2) C0 hA h0 h3 hi hL (by omega) dl_430 dl_431 dl_432 dl_433 dl_434 ?_
  refine lw_arg (k := 3) C0 hA h0 h3 hi hL (by omega) dl_435 dl_436 dl_437 dl_438 dl_439 ?_
  refine lw_arg (k := 4) C0 hA h0 h3 hi hL (by omega) dl_440 dl_441 dl_442 dl_443 dl_444 ?_
  refine lw_callV (z := z) (a := 0) (as := ([vi (xs (i + 1)).toInt, vi (xs (i + 2)).toInt, vi (xs (i + 3)).toInt, vi (xs (i + 4)).toInt] : List mV)) (rest := []) C0 mCl_11 mt_110 kt_611 kt_612 kt_613 dl_445 rfl HK1 hc1 hv1 oa hA hsz (Nat.le_of_ble_eq_true rfl) rfl (by omega) (by omega) (fun H1 locs1 hA => ?_)
  refine lv_aload_n C0.1 C0.2.1 dl_448 rfl h2 ?_
  refine lw_arg (k := 1) C0 hA h0 h3 hi hL (by omega) dl_449 dl_450 dl_451 dl_452 dl_453 ?_
  refine lw_arg (k := 2) C0 hA h0 h3 hi hL (by omega) dl_454 dl_455 dl_456 dl_457 dl_458 ?_
  refine lw_arg (k := 3) C0 hA h0 h3 hi hL (by omega) dl_459 dl_460 dl_461 dl_462 dl_463 ?_
  refine lw_arg (k := 4) C0 hA h0 h3 hi hL (by omega) dl_464 dl_465 dl_466 dl_467 dl_468 ?_
  refine lw_callV (z := z) (a := 35) (as := ([vi (xs (i + 1)).toInt, vi (xs (i + 2)).toInt, vi (xs (i + 3)).toInt, vi (xs (i + 4)).toInt] : List mV)) (rest := [.int (Int32.ofInt z)]) C0 mCl_12 mt_153 kt_1387 kt_1388 kt_1389 dl_469 rfl HK2 hc2 hv2 oa hA hsz (Nat.le_of_ble_eq_true rfl) rfl (by omega) (by omega) (fun H2 locs2 hA => ?_)
  refine lv_icmp_eq (tgt := 784) C0.1 C0.2.1 dl_472 (by decide) (fun _ => kk _ _ _ hI2 hA hG) (fun q => absurd rfl q)
theorem lc_9 (C0 : LX p s m c b L xs G) {M : mM} (hI : INV M) (hA : LA G M s H locs) (hV : LV G b i lm) (hi : i + 8 ≤ L) (hL : L ≤ 4096) (hb1 : nx M + 614 ≤ 600000) (hb2 : zs M + 12280 ≤ 7302250)
    (kk : ∀ (M' : mM) (H' : Heap) (locs' : List Loc), INV M' → LA G M' s H' locs' → GROW M M' → W p l e room_1 s m #[.ref b] below meth c H' locs' (nx M') (zs M') Q (F0 m 784 lm [])) : W p l e room_1 s m #[.ref b] below meth c H locs (nx M) (zs M) Q (F0 m 477 lm []) := by
  have hsz := hV.1
  have h3 := lv_at hV 0 rfl
  have h2 := lv_at hV 1 rfl
  have h1 := lv_at hV 2 rfl
  have h0 := lv_at hV 3 rfl
  have oa : ∀ v ∈ ([vi (xs (i + 1)).toInt] : List mV), okV v := by
    intro v hv
    simp only [List.mem_cons, List.not_mem_nil, or_false] at hv
    rcases hv with rfl
    · exact inR_toInt _
  obtain ⟨r1, hc1, z, hv1, r2, hc2, hv2, hI2, hG⟩ := (p_clock (xs (i + 1)).toInt) M hI
  obtain ⟨q1, q2, q3, q4, HK2⟩ := lw_mid l G hA.2.2.2 hc1 hc2 oa hI hG
  have HK1 : kd M 0 = 11 := hk0 hI.1.1
  refine lv_aload_n C0.1 C0.2.1 dl_477 rfl h1 ?_
  refine lw_arg (k := 1) C0 hA h0 h3 hi hL (by omega) dl_478 dl_479 dl_480 dl_481 dl_482 ?_
  refine lw_callV (z := z) (a := 0) (as := ([vi (xs (i + 1)).toInt] : List mV)) (rest := []) C0 mCl_11 mt_111 kt_615 kt_616 kt_617 dl_483 rfl HK1 hc1 hv1 oa hA hsz (Nat.le_of_ble_eq_true rfl) rfl (by omega) (by omega) (fun H1 locs1 hA => ?_)
  refine lv_aload_n C0.1 C0.2.1 dl_486 rfl h2 ?_
  refine lw_arg (k := 1) C0 hA h0 h3 hi hL (by omega) dl_487 dl_488 dl_489 dl_490 dl_491 ?_
  refine lw_callV (z := z) (a := 35) (as := ([vi (xs (i + 1)).toInt] : List mV)) (rest := [.int (Int32.ofInt z)]) C0 mCl_12 mt_154 kt_1391 kt_1392 kt_1393 dl_492 rfl HK2 hc2 hv2 oa hA hsz (Nat.le_of_ble_eq_true rfl) rfl (by omega) (by omega) (fun H2 locs2 hA => ?_)
  refine lv_icmp_eq (tgt := 784) C0.1 C0.2.1 dl_495 (by decide) (fun _ => kk _ _ _ hI2 hA hG) (fun q => absurd rfl q)
theorem lc_10 (C0 : LX p s m c b L xs G) {M : mM} (hI : INV M) (hA : LA G M s H locs) (hV : LV G b i lm) (hi : i + 8 ≤ L) (hL : L ≤ 4096) (hb1 : nx M + 614 ≤ 600000) (hb2 : zs M + 12280 ≤ 7302250)
    (kk : ∀ (M' : mM) (H' : Heap) (locs' : List Loc), INV M' → LA G M' s H' locs' → GROW M M' → W p l e room_1 s m #[.ref b] below meth c H' locs' (nx M') (zs M') Q (F0 m 784 lm [])) : W p l e room_1 s m #[.ref b] below meth c H locs (nx M) (zs M) Q (F0 m 500 lm []) := by
  have hsz := hV.1
  have h3 := lv_at hV 0 rfl
  have h2 := lv_at hV 1 rfl
  have h1 := lv_at hV 2 rfl
  have h0 := lv_at hV 3 rfl
  have oa : ∀ v ∈ ([vi (xs (i + 1)).toInt, vi (xs (i + 2)).toInt, vi (xs (i + 3)).toInt] : List mV), okV v := by
    intro v hv
    simp only [List.mem_cons, List.not_mem_nil, or_false] at hv
    rcases hv with rfl | rfl | rfl
    · exact inR_toInt _
    · exact inR_toInt _
    · exact inR_toInt _
  obtain ⟨r1, hc1, z, hv1, r2, hc2, hv2, hI2, hG⟩ := (p_sent (xs (i + 1)).toInt (xs (i + 2)).toInt (xs (i + 3)).toInt) M hI
  obtain ⟨q1, q2, q3, q4, HK2⟩ := lw_mid l G hA.2.2.2 hc1 hc2 oa hI hG
  have HK1 : kd M 0 = 11 := hk0 hI.1.1
  refine lv_aload_n C0.1 C0.2.1 dl_500 rfl h1 ?_
  refine lw_arg (k := 1) C0 hA h0 h3 hi hL (by omega) dl_501 dl_502 dl_503 dl_504 dl_505 ?_
  refine lw_arg (k := 2) C0 hA h0 h3 hi hL (by omega) dl_506 dl_507 dl_508 dl_509 dl_510 ?_
  refine lw_arg (k := 3) C0 hA h0 h3 hi hL (by omega) dl_511 dl_512 dl_513 dl_514 dl_515 ?_
  refine lw_callV (z := z) (a := 0) (as := ([vi (xs (i + 1)).toInt, vi (xs (i + 2)).toInt, vi (xs (i + 3)).toInt] : List mV)) (rest := []) C0 mCl_11 mt_112 kt_619 kt_620 kt_621 dl_516 rfl HK1 hc1 hv1 oa hA hsz (Nat.le_of_ble_eq_true rfl) rfl (by omega) (by omega) (fun H1 locs1 hA => ?_)
  refine lv_aload_n C0.1 C0.2.1 dl_519 rfl h2 ?_
  refine lw_arg (k := 1) C0 hA h0 h3 hi hL (by omega) dl_520 dl_521 dl_522 dl_523 dl_524 ?_
  refine lw_arg (k := 2) C0 hA h0 h3 hi hL (by omega) dl_525 dl_526 dl_527 dl_528 dl_529 ?_
  refine lw_arg (k := 3) C0 hA h0 h3 hi hL (by omega) dl_530 dl_531 dl_532 dl_533 dl_534 ?_
  refine lw_callV (z := z) (a := 35) (as := ([vi (xs (i + 1)).toInt, vi (xs (i + 2)).toInt, vi (xs (i + 3)).toInt] : List mV)) (rest := [.int (Int32.ofInt z)]) C0 mCl_12 mt_160 kt_1398 kt_1399 kt_1400 dl_535 rfl HK2 hc2 hv2 oa hA hsz (Nat.le_of_ble_eq_true rfl) rfl (by omega) (by omega) (fun H2 locs2 hA => ?_)
  refine lv_icmp_eq (tgt := 784) C0.1 C0.2.1 dl_538 (by decide) (fun _ => kk _ _ _ hI2 hA hG) (fun q => absurd rfl q)
theorem lc_11 (C0 : LX p s m c b L xs G) {M : mM} (hI : INV M) (hA : LA G M s H locs) (hV : LV G b i lm) (hi : i + 8 ≤ L) (hL : L ≤ 4096) (hb1 : nx M + 614 ≤ 600000) (hb2 : zs M + 12280 ≤ 7302250)
    (kk : ∀ (M' : mM) (H' : Heap) (locs' : List Loc), INV M' → LA G M' s H' locs' → GROW M M' → W p l e room_1 s m #[.ref b] below meth c H' locs' (nx M') (zs M') Q (F0 m 784 lm [])) : W p l e room_1 s m #[.ref b] below meth c H locs (nx M) (zs M) Q (F0 m 543 lm []) := by
  have hsz := hV.1
  have h3 := lv_at hV 0 rfl
  have h2 := lv_at hV 1 rfl
  have h1 := lv_at hV 2 rfl
  have h0 := lv_at hV 3 rfl
  have oa : ∀ v ∈ ([vi (xs (i + 1)).toInt, vi (xs (i + 2)).toInt, vi (xs (i + 3)).toInt, vi (xs (i + 4)).toInt] : List mV), okV v := by
    intro v hv
    simp only [List.mem_cons, List.not_mem_nil, or_false] at hv
    rcases hv with rfl | rfl | rfl | rfl
    · exact inR_toInt _
    · exact inR_toInt _
    · exact inR_toInt _
    · exact inR_toInt _
  obtain ⟨r1, hc1, z, hv1, r2, hc2, hv2, hI2, hG⟩ := (p_says (xs (i + 1)).toInt (xs (i + 2)).toInt (xs (i + 3)).toInt (xs (i + 4)).toInt) M hI
  obtain ⟨q1, q2, q3, q4, HK2⟩ := lw_mid l G hA.2.2.2 hc1 hc2 oa hI hG
  have HK1 : kd M 0 = 11 := hk0 hI.1.1
  refine lv_aload_n C0.1 C0.2.1 dl_543 rfl h1 ?_
  refine lw_arg (k := 1) C0 hA h0 h3 hi hL (by omega) dl_544 dl_545 dl_546 dl_547 dl_548 ?_
  refine lw_arg (k := 2) C0 hA h0 h3 hi hL (by omega) dl_549 dl_550 dl_551 dl_552 dl_553 ?_
  refine lw_arg (k := 3) C0 hA h0 h3 hi hL (by omega) dl_554 dl_555 dl_556 dl_557 dl_558 ?_
  refine lw_arg (k := 4) C0 hA h0 h3 hi hL (by omega) dl_559 dl_560 dl_561 dl_562 dl_563 ?_
  refine lw_callV (z := z) (a := 0) (as := ([vi (xs (i + 1)).toInt, vi (xs (i + 2)).toInt, vi (xs (i + 3)).toInt, vi (xs (i + 4)).toInt] : List mV)) (rest := []) C0 mCl_11 mt_113 kt_761 kt_762 kt_763 dl_564 rfl HK1 hc1 hv1 oa hA hsz (Nat.le_of_ble_eq_true rfl) rfl (by omega) (by omega) (fun H1 locs1 hA => ?_)
  refine lv_aload_n C0.1 C0.2.1 dl_567 rfl h2 ?_
  refine lw_arg (k := 1) C0 hA h0 h3 hi hL (by omega) dl_568 dl_569 dl_570 dl_571 dl_572 ?_
  refine lw_arg (k := 2) C0 hA h0 h3 hi hL (by omega) dl_573 dl_574 dl_575 dl_576 dl_577 ?_
  refine lw_arg (k := 3) C0 hA h0 h3 hi hL (by omega) dl_578 dl_579 dl_580 dl_581 dl_582 ?_
  refine lw_arg (k := 4) C0 hA h0 h3 hi hL (by omega) dl_583 dl_584 dl_585 dl_586 dl_587 ?_
  refine lw_callV (z := z) (a := 35) (as := ([vi (xs (i + 1)).toInt, vi (xs (i + 2)).toInt, vi (xs (i + 3)).toInt, vi (xs (i + 4)).toInt] : List mV)) (rest := [.int (Int32.ofInt z)]) C0 mCl_12 mt_161 kt_1422 kt_1423 kt_1424 dl_588 rfl HK2 hc2 hv2 oa hA hsz (Nat.le_of_ble_eq_true rfl) rfl (by omega) (by omega) (fun H2 locs2 hA => ?_)
  refine lv_icmp_eq (tgt := 784) C0.1 C0.2.1 dl_591 (by decide) (fun _ => kk _ _ _ hI2 hA hG) (fun q => absurd rfl q)
theorem lc_12 (C0 : LX p s m c b L xs G) {M : mM} (hI : INV M) (hA : LA G M s H locs) (hV : LV G b i lm) (hi : i + 8 ≤ L) (hL : L ≤ 4096) (hb1 : nx M + 614 ≤ 600000) (hb2 : zs M + 12280 ≤ 7302250)
    (kk : ∀ (M' : mM) (H' : Heap) (locs' : List Loc), INV M' → LA G M' s H' locs' → GROW M M' → W p l e room_1 s m #[.ref b] below meth c H' locs' (nx M') (zs M') Q (F0 m 784 lm [])) : W p l e room_1 s m #[.ref b] below meth c H locs (nx M) (zs M) Q (F0 m 596 lm []) := by
  have hsz := hV.1
  have h3 := lv_at hV 0 rfl
  have h2 := lv_at hV 1 rfl
  have h1 := lv_at hV 2 rfl
  have h0 := lv_at hV 3 rfl
  have oa : ∀ v ∈ ([vi (xs (i + 1)).toInt, vi (xs (i + 2)).toInt, vi (xs (i + 3)).toInt] : List mV), okV v := by
    intro v hv
    simp only [List.mem_cons, List.not_mem_nil, or_false] at hv
    rcases hv with rfl | rfl | rfl
    · exact inR_toInt _
    · exact inR_toInt _
    · exact inR_toInt _
  obtain ⟨r1, hc1, z, hv1, r2, hc2, hv2, hI2, hG⟩ := (p_showing (xs (i + 1)).toInt (xs (i + 2)).toInt (xs (i + 3)).toInt) M hI
  obtain ⟨q1, q2, q3, q4, HK2⟩ := lw_mid l G hA.2.2.2 hc1 hc2 oa hI hG
  have HK1 : kd M 0 = 11 := hk0 hI.1.1
  refine lv_aload_n C0.1 C0.2.1 dl_596 rfl h1 ?_
  refine lw_arg (k := 1) C0 hA h0 h3 hi hL (by omega) dl_597 dl_598 dl_599 dl_600 dl_601 ?_
  refine lw_arg (k := 2) C0 hA h0 h3 hi hL (by omega) dl_602 dl_603 dl_604 dl_605 dl_606 ?_
  refine lw_arg (k := 3) C0 hA h0 h3 hi hL (by omega) dl_607 dl_608 dl_609 dl_610 dl_611 ?_
  refine lw_callV (z := z) (a := 0) (as := ([vi (xs (i + 1)).toInt, vi (xs (i + 2)).toInt, vi (xs (i + 3)).toInt] : List mV)) (rest := []) C0 mCl_11 mt_114 kt_775 kt_776 kt_777 dl_612 rfl HK1 hc1 hv1 oa hA hsz (Nat.le_of_ble_eq_true rfl) rfl (by omega) (by omega) (fun H1 locs1 hA => ?_)
  refine lv_aload_n C0.1 C0.2.1 dl_615 rfl h2 ?_
  refine lw_arg (k := 1) C0 hA h0 h3 hi hL (by omega) dl_616 dl_617 dl_618 dl_619 dl_620 ?_
  refine lw_arg (k := 2) C0 hA h0 h3 hi hL (by omega) dl_621 dl_622 dl_623 dl_624 dl_625 ?_
  refine lw_arg (k := 3) C0 hA h0 h3 hi hL (by omega) dl_626 dl_627 dl_628 dl_629 dl_630 ?_
  refine lw_callV (z := z) (a := 35) (as := ([vi (xs (i + 1)).toInt, vi (xs (i + 2)).toInt, vi (xs (i + 3)).toInt] : List mV)) (rest := [.int (Int32.ofInt z)]) C0 mCl_12 mt_169 kt_1430 kt_1431 kt_1432 dl_631 rfl HK2 hc2 hv2 oa hA hsz (Nat.le_of_ble_eq_true rfl) rfl (by omega) (by omega) (fun H2 locs2 hA => ?_)
  refine lv_icmp_eq (tgt := 784) C0.1 C0.2.1 dl_634 (by decide) (fun _ => kk _ _ _ hI2 hA hG) (fun q => absurd rfl q)
theorem lc_13 (C0 : LX p s m c b L xs G) {M : mM} (hI : INV M) (hA : LA G M s H locs) (hV : LV G b i lm) (hi : i + 8 ≤ L) (hL : L ≤ 4096) (hb1 : nx M + 614 ≤ 600000) (hb2 : zs M + 12280 ≤ 7302250)
    (kk : ∀ (M' : mM) (H' : Heap) (locs' : List Loc), INV M' → LA G M' s H' locs' → GROW M M' → W p l e room_1 s m #[.ref b] below meth c H' locs' (nx M') (zs M') Q (F0 m 784 lm [])) : W p l e room_1 s m #[.ref b] below meth c H locs (nx M) (zs M) Q (F0 m 639 lm []) := by
  have hsz := hV.1
  have h3 := lv_at hV 0 rfl
  have h2 := lv_at hV 1 rfl
  have h1 := lv_at hV 2 rfl
  have h0 := lv_at hV 3 rfl
  have oa : ∀ v ∈ ([vi (xs (i + 1)).toInt] : List mV), okV v := by
    intro v hv
    simp only [List.mem_cons, List.not_mem_nil, or_false] at hv
    rcases hv with rfl
    · exact inR_toInt _
  obtain ⟨r1, hc1, z, hv1, r2, hc2, hv2, hI2, hG⟩ := (p_showings (xs (i + 1)).toInt) M hI
  obtain ⟨q1, q2, q3, q4, HK2⟩ := lw_mid l G hA.2.2.2 hc1 hc2 oa hI hG
  have HK1 : kd M 0 = 11 := hk0 hI.1.1
  refine lv_aload_n C0.1 C0.2.1 dl_639 rfl h1 ?_
  refine lw_arg (k := 1) C0 hA h0 h3 hi hL (by omega) dl_640 dl_641 dl_642 dl_643 dl_644 ?_
  refine lw_callV (z := z) (a := 0) (as := ([vi (xs (i + 1)).toInt] : List mV)) (rest := []) C0 mCl_11 mt_115 kt_812 kt_813 kt_814 dl_645 rfl HK1 hc1 hv1 oa hA hsz (Nat.le_of_ble_eq_true rfl) rfl (by omega) (by omega) (fun H1 locs1 hA => ?_)
  refine lv_aload_n C0.1 C0.2.1 dl_648 rfl h2 ?_
  refine lw_arg (k := 1) C0 hA h0 h3 hi hL (by omega) dl_649 dl_650 dl_651 dl_652 dl_653 ?_
  refine lw_callV (z := z) (a := 35) (as := ([vi (xs (i + 1)).toInt] : List mV)) (rest := [.int (Int32.ofInt z)]) C0 mCl_12 mt_168 kt_1426 kt_1427 kt_1428 dl_654 rfl HK2 hc2 hv2 oa hA hsz (Nat.le_of_ble_eq_true rfl) rfl (by omega) (by omega) (fun H2 locs2 hA => ?_)
  refine lv_icmp_eq (tgt := 784) C0.1 C0.2.1 dl_657 (by decide) (fun _ => kk _ _ _ hI2 hA hG) (fun q => absurd rfl q)
theorem lc_14 (C0 : LX p s m c b L xs G) {M : mM} (hI : INV M) (hA : LA G M s H locs) (hV : LV G b i lm) (hi : i + 8 ≤ L) (hL : L ≤ 4096) (hb1 : nx M + 614 ≤ 600000) (hb2 : zs M + 12280 ≤ 7302250)
    (kk : ∀ (M' : mM) (H' : Heap) (locs' : List Loc), INV M' → LA G M' s H' locs' → GROW M M' → W p l e room_1 s m #[.ref b] below meth c H' locs' (nx M') (zs M') Q (F0 m 784 lm [])) : W p l e room_1 s m #[.ref b] below meth c H locs (nx M) (zs M) Q (F0 m 662 lm []) := by
  have hsz := hV.1
  have h3 := lv_at hV 0 rfl
  have h2 := lv_at hV 1 rfl
  have h1 := lv_at hV 2 rfl
  have h0 := lv_at hV 3 rfl
  have oa : ∀ v ∈ ([vi (xs (i + 1)).toInt, vi (xs (i + 2)).toInt, vi (xs (i + 3)).toInt] : List mV), okV v := by
    intro v hv
    simp only [List.mem_cons, List.not_mem_nil, or_false] at hv
    rcases hv with rfl | rfl | rfl
    · exact inR_toInt _
    · exact inR_toInt _
    · exact inR_toInt _
  obtain ⟨r1, hc1, z, hv1, r2, hc2, hv2, hI2, hG⟩ := (p_holds (xs (i + 1)).toInt (xs (i + 2)).toInt (xs (i + 3)).toInt) M hI
  obtain ⟨q1, q2, q3, q4, HK2⟩ := lw_mid l G hA.2.2.2 hc1 hc2 oa hI hG
  have HK1 : kd M 0 = 11 := hk0 hI.1.1
  refine lv_aload_n C0.1 C0.2.1 dl_662 rfl h1 ?_
  refine lw_arg (k := 1) C0 hA h0 h3 hi hL (by omega) dl_663 dl_664 dl_665 dl_666 dl_667 ?_
  refine lw_arg (k := 2) C0 hA h0 h3 hi hL (by omega) dl_668 dl_669 dl_670 dl_671 dl_672 ?_
  refine lw_arg (k := 3) C0 hA h0 h3 hi hL (by omega) dl_673 dl_674 dl_675 dl_676 dl_677 ?_
  refine lw_callV (z := z) (a := 0) (as := ([vi (xs (i + 1)).toInt, vi (xs (i + 2)).toInt, vi (xs (i + 3)).toInt] : List mV)) (rest := []) C0 mCl_11 mt_116 kt_816 kt_817 kt_818 dl_678 rfl HK1 hc1 hv1 oa hA hsz (Nat.le_of_ble_eq_true rfl) rfl (by omega) (by omega) (fun H1 locs1 hA => ?_)
  refine lv_aload_n C0.1 C0.2.1 dl_681 rfl h2 ?_
  refine lw_arg (k := 1) C0 hA h0 h3 hi hL (by omega) dl_682 dl_683 dl_684 dl_685 dl_686 ?_
  refine lw_arg (k := 2) C0 hA h0 h3 hi hL (by omega) dl_687 dl_688 dl_689 dl_690 dl_691 ?_
  refine lw_arg (k := 3) C0 hA h0 h3 hi hL (by omega) dl_692 dl_693 dl_694 dl_695 dl_696 ?_
  refine lw_callV (z := z) (a := 35) (as := ([vi (xs (i + 1)).toInt, vi (xs (i + 2)).toInt, vi (xs (i + 3)).toInt] : List mV)) (rest := [.int (Int32.ofInt z)]) C0 mCl_12 mt_170 kt_1462 kt_1463 kt_1464 dl_697 rfl HK2 hc2 hv2 oa hA hsz (Nat.le_of_ble_eq_true rfl) rfl (by omega) (by omega) (fun H2 locs2 hA => ?_)
  refine lv_icmp_eq (tgt := 784) C0.1 C0.2.1 dl_700 (by decide) (fun _ => kk _ _ _ hI2 hA hG) (fun q => absurd rfl q)
theorem lc_15 (C0 : LX p s m c b L xs G) {M : mM} (hI : INV M) (hA : LA G M s H locs) (hV : LV G b i lm) (hi : i + 8 ≤ L) (hL : L ≤ 4096) (hb1 : nx M + 614 ≤ 600000) (hb2 : zs M + 12280 ≤ 7302250)
    (kk : ∀ (M' : mM) (H' : Heap) (locs' : List Loc), INV M' → LA G M' s H' locs' → GROW M M' → W p l e room_1 s m #[.ref b] below meth c H' locs' (nx M') (zs M') Q (F0 m 784 lm [])) : W p l e room_1 s m #[.ref b] below meth c H locs (nx M) (zs M) Q (F0 m 705 lm []) := by
  have hsz := hV.1
  have h3 := lv_at hV 0 rfl
  have h2 := lv_at hV 1 rfl
  have h1 := lv_at hV 2 rfl
  have h0 := lv_at hV 3 rfl
  have oa : ∀ v ∈ ([vi (xs (i + 1)).toInt] : List mV), okV v := by
    intro v hv
    simp only [List.mem_cons, List.not_mem_nil, or_false] at hv
    rcases hv with rfl
    · exact inR_toInt _
  obtain ⟨r1, hc1, z, hv1, r2, hc2, hv2, hI2, hG⟩ := (p_plan (xs (i + 1)).toInt) M hI
  obtain ⟨q1, q2, q3, q4, HK2⟩ := lw_mid l G hA.2.2.2 hc1 hc2 oa hI hG
  have HK1 : kd M 0 = 11 := hk0 hI.1.1
  refine lv_aload_n C0.1 C0.2.1 dl_705 rfl h1 ?_
  refine lw_arg (k := 1) C0 hA h0 h3 hi hL (by omega) dl_706 dl_707 dl_708 dl_709 dl_710 ?_
  refine lw_callV (z := z) (a := 0) (as := ([vi (xs (i + 1)).toInt] : List mV)) (rest := []) C0 mCl_11 mt_117 kt_821 kt_822 kt_823 dl_711 rfl HK1 hc1 hv1 oa hA hsz (Nat.le_of_ble_eq_true rfl) rfl (by omega) (by omega) (fun H1 locs1 hA => ?_)
  refine lv_aload_n C0.1 C0.2.1 dl_714 rfl h2 ?_
  refine lw_arg (k := 1) C0 hA h0 h3 hi hL (by omega) dl_715 dl_716 dl_717 dl_718 dl_719 ?_
  refine lw_callV (z := z) (a := 35) (as := ([vi (xs (i + 1)).toInt] : List mV)) (rest := [.int (Int32.ofInt z)]) C0 mCl_12 mt_177 kt_1466 kt_1467 kt_1468 dl_720 rfl HK2 hc2 hv2 oa hA hsz (Nat.le_of_ble_eq_true rfl) rfl (by omega) (by omega) (fun H2 locs2 hA => ?_)
  refine lv_icmp_eq (tgt := 784) C0.1 C0.2.1 dl_723 (by decide) (fun _ => kk _ _ _ hI2 hA hG) (fun q => absurd rfl q)
theorem lc_16 (C0 : LX p s m c b L xs G) {M : mM} (hI : INV M) (hA : LA G M s H locs) (hV : LV G b i lm) (hi : i + 8 ≤ L) (hL : L ≤ 4096) (hb1 : nx M + 614 ≤ 600000) (hb2 : zs M + 12280 ≤ 7302250)
    (kk : ∀ (M' : mM) (H' : Heap) (locs' : List Loc), INV M' → LA G M' s H' locs' → GROW M M' → W p l e room_1 s m #[.ref b] below meth c H' locs' (nx M') (zs M') Q (F0 m 784 lm [])) : W p l e room_1 s m #[.ref b] below meth c H locs (nx M) (zs M) Q (F0 m 728 lm []) := by
  have hsz := hV.1
  have h3 := lv_at hV 0 rfl
  have h2 := lv_at hV 1 rfl
  have h1 := lv_at hV 2 rfl
  have h0 := lv_at hV 3 rfl
  have oa : ∀ v ∈ ([vi (xs (i + 1)).toInt, vi (xs (i + 2)).toInt] : List mV), okV v := by
    intro v hv
    simp only [List.mem_cons, List.not_mem_nil, or_false] at hv
    rcases hv with rfl | rfl
    · exact inR_toInt _
    · exact inR_toInt _
  obtain ⟨r1, hc1, z, hv1, r2, hc2, hv2, hI2, hG⟩ := (p_candidate (xs (i + 1)).toInt (xs (i + 2)).toInt) M hI
  obtain ⟨q1, q2, q3, q4, HK2⟩ := lw_mid l G hA.2.2.2 hc1 hc2 oa hI hG
  have HK1 : kd M 0 = 11 := hk0 hI.1.1
  refine lv_aload_n C0.1 C0.2.1 dl_728 rfl h1 ?_
  refine lw_arg (k := 1) C0 hA h0 h3 hi hL (by omega) dl_729 dl_730 dl_731 dl_732 dl_733 ?_
  refine lw_arg (k := 2) C0 hA h0 h3 hi hL (by omega) dl_734 dl_735 dl_736 dl_737 dl_738 ?_
  refine lw_callV (z := z) (a := 0) (as := ([vi (xs (i + 1)).toInt, vi (xs (i + 2)).toInt] : List mV)) (rest := []) C0 mCl_11 mt_118 kt_1011 kt_1012 kt_1013 dl_739 rfl HK1 hc1 hv1 oa hA hsz (Nat.le_of_ble_eq_true rfl) rfl (by omega) (by omega) (fun H1 locs1 hA => ?_)
  refine lv_aload_n C0.1 C0.2.1 dl_742 rfl h2 ?_
  refine lw_arg (k := 1) C0 hA h0 h3 hi hL (by omega) dl_743 dl_744 dl_745 dl_746 dl_747 ?_
  refine lw_arg (k := 2) C0 hA h0 h3 hi hL (by omega) dl_748 dl_749 dl_750 dl_751 dl_752 ?_
  refine lw_callV (z := z) (a := 35) (as := ([vi (xs (i + 1)).toInt, vi (xs (i + 2)).toInt] : List mV)) (rest := [.int (Int32.ofInt z)]) C0 mCl_12 mt_180 kt_1502 kt_1503 kt_1504 dl_753 rfl HK2 hc2 hv2 oa hA hsz (Nat.le_of_ble_eq_true rfl) rfl (by omega) (by omega) (fun H2 locs2 hA => ?_)
  refine lv_icmp_eq (tgt := 784) C0.1 C0.2.1 dl_756 (by decide) (fun _ => kk _ _ _ hI2 hA hG) (fun q => absurd rfl q)
theorem lc_17 (C0 : LX p s m c b L xs G) {M : mM} (hI : INV M) (hA : LA G M s H locs) (hV : LV G b i lm) (hi : i + 8 ≤ L) (hL : L ≤ 4096) (hb1 : nx M + 614 ≤ 600000) (hb2 : zs M + 12280 ≤ 7302250)
    (kk : ∀ (M' : mM) (H' : Heap) (locs' : List Loc), INV M' → LA G M' s H' locs' → GROW M M' → W p l e room_1 s m #[.ref b] below meth c H' locs' (nx M') (zs M') Q (F0 m 784 lm [])) : W p l e room_1 s m #[.ref b] below meth c H locs (nx M) (zs M) Q (F0 m 761 lm []) := by
  have hsz := hV.1
  have h3 := lv_at hV 0 rfl
  have h2 := lv_at hV 1 rfl
  have h1 := lv_at hV 2 rfl
  have h0 := lv_at hV 3 rfl
  have oa : ∀ v ∈ ([vi (xs (i + 1)).toInt] : List mV), okV v := by
    intro v hv
    simp only [List.mem_cons, List.not_mem_nil, or_false] at hv
    rcases hv with rfl
    · exact inR_toInt _
  obtain ⟨r1, hc1, z, hv1, r2, hc2, hv2, hI2, hG⟩ := (p_count (xs (i + 1)).toInt) M hI
  obtain ⟨q1, q2, q3, q4, HK2⟩ := lw_mid l G hA.2.2.2 hc1 hc2 oa hI hG
  have HK1 : kd M 0 = 11 := hk0 hI.1.1
  refine lv_aload_n C0.1 C0.2.1 dl_761 rfl h1 ?_
  refine lw_arg (k := 1) C0 hA h0 h3 hi hL (by omega) dl_762 dl_763 dl_764 dl_765 dl_766 ?_
  refine lw_callV (z := z) (a := 0) (as := ([vi (xs (i + 1)).toInt] : List mV)) (rest := []) C0 mCl_11 mt_119 kt_1016 kt_1017 kt_1018 dl_767 rfl HK1 hc1 hv1 oa hA hsz (Nat.le_of_ble_eq_true rfl) rfl (by omega) (by omega) (fun H1 locs1 hA => ?_)
  refine lv_aload_n C0.1 C0.2.1 dl_770 rfl h2 ?_
  refine lw_arg (k := 1) C0 hA h0 h3 hi hL (by omega) dl_771 dl_772 dl_773 dl_774 dl_775 ?_
  refine lw_callV (z := z) (a := 35) (as := ([vi (xs (i + 1)).toInt] : List mV)) (rest := [.int (Int32.ofInt z)]) C0 mCl_12 mt_181 kt_1506 kt_1507 kt_1508 dl_776 rfl HK2 hc2 hv2 oa hA hsz (Nat.le_of_ble_eq_true rfl) rfl (by omega) (by omega) (fun H2 locs2 hA => ?_)
  refine lv_icmp_eq (tgt := 784) C0.1 C0.2.1 dl_779 (by decide) (fun _ => kk _ _ _ hI2 hA hG) (fun q => absurd rfl q)
end LWC
