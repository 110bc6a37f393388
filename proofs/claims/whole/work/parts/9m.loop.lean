section LWL
variable {p : Program} {l : Launch} {e : Jvm.Env} {s : State} {m : MethodId} {below : List Frame} {meth : Method} {c : Code} {b L : Nat} {xs : Nat → Int32} {G : mG} {Q : State → Prop}
theorem lw_sub {L i : Nat} (hL : L ≤ 4096) (hi : i ≤ 5000) : Int32.ofNat L - 8 < nI i ↔ L < i + 8 := by
  have e : Int32.ofNat L - 8 = Int32.ofInt ((L : Int) - 8) := by
    rw [Int32.ofInt_sub]
    rfl
  have e2 : nI i = Int32.ofInt (i : Int) := Int32.ofInt_eq_ofNat.symm
  rw [e, e2, i32_lt ⟨by omega, by omega⟩ ⟨by omega, by omega⟩]
  omega
theorem GROW_r (M : mM) : GROW M M := by
  unfold GROW
  omega
/-- at the loop's head, with j acts done, both answered alike so far -/
theorem law_loop (C0 : LX p s m c b L xs G) (hL : L ≤ 4096) (hend : ∀ (H : Heap) (locs : List Loc) (cells slots : Nat) (ls : Array Slot), (∀ q ∈ locs, G.1 ≤ q.base) → cells ≤ 600000 → slots ≤ 7302250 → W p l e room_1 s m #[.ref b] below meth c H locs cells slots Q (F0 m 790 ls [])) :
    ∀ (n j : Nat) (M : mM) (H : Heap) (locs : List Loc) (ls : Array Slot), j ≤ 512 → 513 ≤ j + n → INV M → LA G M s H locs → LV G b (8 * j) ls → nx M ≤ 88 + 614 * j → zs M + 1760 ≤ 40000 + 20 * nx M → W p l e room_1 s m #[.ref b] below meth c H locs (nx M) (zs M) Q (F0 m 18 ls []) := by
  intro n
  induction n with
  | zero =>
    intro j M H locs ls h1 h2
    exact absurd h2 (by omega)
  | succ n ih =>
    intro j M H locs ls hj hjn hI hA hV hb1 hb2
    obtain ⟨hx, hb, -, -, -, -, hX, hbl, -⟩ := id C0
    have h3 := lv_at hV 0 rfl
    have h0 := lv_at hV 3 rfl
    refine lv_iload_n hx hb dl_18 rfl h3 ?_
    refine lv_aload_n hx hb dl_19 rfl h0 ?_
    refine va_slen hx hb hX hbl (lw_nbA C0) hA.2.2.1 dl_20 ?_
    refine lv_bipush (v := 8) hx hb dl_21 (by decide) ?_
    refine lv_isub hx hb dl_23 ?_
    refine lv_icmp_gt (tgt := 790) hx hb dl_24 (by decide) (fun q => ?_) (fun q => ?_)
    · exact hend H locs _ _ ls hA.2.2.1.2.2 (by omega) (by omega)
    · have hi : 8 * j + 8 ≤ L := by
        rcases Nat.lt_or_ge L (8 * j + 8) with w | w
        · exact absurd ((lw_sub hL (by omega)).mpr w) q
        · exact w
      have cont : ∀ (M' : mM) (H' : Heap) (locs' : List Loc), INV M' → LA G M' s H' locs' → GROW M M' → W p l e room_1 s m #[.ref b] below meth c H' locs' (nx M') (zs M') Q (F0 m 784 ls []) := by
        intro M' H' locs' hI' hA' hG
        unfold GROW at hG
        refine lv_iinc (v := nI (8 * (j + 1))) (lv' := [(3, .int (nI (8 * (j + 1)))), (2, .ref (G.1 + 35)), (1, .ref (G.1 + 0)), (0, .ref b)]) hx hb dl_784 hV (k := 0) rfl (nI_add (8 * j) 8) (by decide) rfl (fun ls2 hl2 => ?_)
        refine lv_goto (tgt := 18) hx hb dl_787 (by decide) ?_
        exact ih (j + 1) M' H' locs' ls2 (by omega) (by omega) hI' hA' hl2 (by omega) (by omega)
      refine lv_aload_n hx hb dl_27 rfl h0 ?_
      refine lv_iload_n hx hb dl_28 rfl h3 ?_
      refine va_sld hx hb hX hbl (lw_nbA C0) hA.2.2.1 (vp_in_nI (by omega) (by omega)) dl_29 ?_
      refine lv_bipush (v := 31) hx hb dl_30 (by decide) ?_
      refine lv_iand hx hb dl_32 ?_
      refine lv_topi (fun y ey => ?_)
      have hcs : y.toInt < 0 ∨ 17 < y.toInt ∨ y.toInt = 0 ∨ y.toInt = 1 ∨ y.toInt = 2 ∨ y.toInt = 3 ∨ y.toInt = 4 ∨ y.toInt = 5 ∨ y.toInt = 6 ∨ y.toInt = 7 ∨ y.toInt = 8 ∨ y.toInt = 9 ∨ y.toInt = 10 ∨ y.toInt = 11 ∨ y.toInt = 12 ∨ y.toInt = 13 ∨ y.toInt = 14 ∨ y.toInt = 15 ∨ y.toInt = 16 ∨ y.toInt = 17 := by omega
      rcases hcs with w | w | w | w | w | w | w | w | w | w | w | w | w | w | w | w | w | w | w | w
      · exact lv_tableOut (tgt := 784) hx hb dl_33 (Or.inl w) (by decide) (cont M H locs hI hA (GROW_r M))
      · exact lv_tableOut (tgt := 784) hx hb dl_33 (Or.inr w) (by decide) (cont M H locs hI hA (GROW_r M))
      · exact lv_tableIn (tgt := 120) (off := 87) hx hb dl_33 (by omega) (by omega) (by rw [w]; rfl) (by decide) (lc_0 C0 hI hA hV hi hL (by omega) (by omega) cont)
      · exact lv_tableIn (tgt := 183) (off := 150) hx hb dl_33 (by omega) (by omega) (by rw [w]; rfl) (by decide) (lc_1 C0 hI hA hV hi hL (by omega) (by omega) cont)
      · exact lv_tableIn (tgt := 206) (off := 173) hx hb dl_33 (by omega) (by omega) (by rw [w]; rfl) (by decide) (lc_2 C0 hI hA hV hi hL (by omega) (by omega) cont)
      · exact lv_tableIn (tgt := 219) (off := 186) hx hb dl_33 (by omega) (by omega) (by rw [w]; rfl) (by decide) (lc_3 C0 hI hA hV hi hL (by omega) (by omega) cont)
      · exact lv_tableIn (tgt := 232) (off := 199) hx hb dl_33 (by omega) (by omega) (by rw [w]; rfl) (by decide) (lc_4 C0 hI hA hV hi hL (by omega) (by omega) cont)
      · exact lv_tableIn (tgt := 255) (off := 222) hx hb dl_33 (by omega) (by omega) (by rw [w]; rfl) (by decide) (lc_5 C0 hI hA hV hi hL (by omega) (by omega) cont)
      · exact lv_tableIn (tgt := 278) (off := 245) hx hb dl_33 (by omega) (by omega) (by rw [w]; rfl) (by decide) (lc_6 C0 hI hA hV hi hL (by omega) (by omega) cont)
      · exact lv_tableIn (tgt := 381) (off := 348) hx hb dl_33 (by omega) (by omega) (by rw [w]; rfl) (by decide) (lc_7 C0 hI hA hV hi hL (by omega) (by omega) cont)
      · exact lv_tableIn (tgt := 424) (off := 391) hx hb dl_33 (by omega) (by omega) (by rw [w]; rfl) (by decide) (lc_8 C0 hI hA hV hi hL (by omega) (by omega) cont)
      · exact lv_tableIn (tgt := 477) (off := 444) hx hb dl_33 (by omega) (by omega) (by rw [w]; rfl) (by decide) (lc_9 C0 hI hA hV hi hL (by omega) (by omega) cont)
      · exact lv_tableIn (tgt := 500) (off := 467) hx hb dl_33 (by omega) (by omega) (by rw [w]; rfl) (by decide) (lc_10 C0 hI hA hV hi hL (by omega) (by omega) cont)
      · exact lv_tableIn (tgt := 543) (off := 510) hx hb dl_33 (by omega) (by omega) (by rw [w]; rfl) (by decide) (lc_11 C0 hI hA hV hi hL (by omega) (by omega) cont)
      · exact lv_tableIn (tgt := 596) (off := 563) hx hb dl_33 (by omega) (by omega) (by rw [w]; rfl) (by decide) (lc_12 C0 hI hA hV hi hL (by omega) (by omega) cont)
      · exact lv_tableIn (tgt := 639) (off := 606) hx hb dl_33 (by omega) (by omega) (by rw [w]; rfl) (by decide) (lc_13 C0 hI hA hV hi hL (by omega) (by omega) cont)
      · exact lv_tableIn (tgt := 662) (off := 629) hx hb dl_33 (by omega) (by omega) (by rw [w]; rfl) (by decide) (lc_14 C0 hI hA hV hi hL (by omega) (by omega) cont)
      · exact lv_tableIn (tgt := 705) (off := 672) hx hb dl_33 (by omega) (by omega) (by rw [w]; rfl) (by decide) (lc_15 C0 hI hA hV hi hL (by omega) (by omega) cont)
      · exact lv_tableIn (tgt := 728) (off := 695) hx hb dl_33 (by omega) (by omega) (by rw [w]; rfl) (by decide) (lc_16 C0 hI hA hV hi hL (by omega) (by omega) cont)
      · exact lv_tableIn (tgt := 761) (off := 728) hx hb dl_33 (by omega) (by omega) (by rw [w]; rfl) (by decide) (lc_17 C0 hI hA hV hi hL (by omega) (by omega) cont)
end LWL
