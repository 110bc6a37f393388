/-! feed -/
/-- four bytes of w behind the s bytes of row t, the count at (o, f) -/
def by4 (w : Int) (k : Nat) : Int := wb (Int32.ofInt w >>> (Int32.ofInt (24 - 8 * (k : Int)) &&& 31)).toInt
def ap4 (M : mM) (o f t : Nat) (s : Nat) (w : Int) : mM := si (si (si (si (si (si (si (si M t s (by4 w 0)) o f (s + 1 : Nat)) t (s + 1) (by4 w 1)) o f (s + 2 : Nat)) t (s + 2) (by4 w 2)) o f (s + 3 : Nat)) t (s + 3) (by4 w 3)) o f (s + 4 : Nat)
theorem by4_0 (w : Int) : wb (Int32.ofInt w >>> (Int32.ofInt 24 &&& 31)).toInt = by4 w 0 := rfl
theorem by4_1 (w : Int) : wb (Int32.ofInt w >>> (Int32.ofInt 16 &&& 31)).toInt = by4 w 1 := rfl
theorem by4_2 (w : Int) : wb (Int32.ofInt w >>> (Int32.ofInt 8 &&& 31)).toInt = by4 w 2 := rfl
theorem by4_3 (w : Int) : wb (Int32.ofInt w >>> (Int32.ofInt 0 &&& 31)).toInt = by4 w 3 := rfl
theorem wb_wb (z : Int) : wb (wb z) = wb z := by
  unfold wb
  rw [Int8.ofInt_toInt]
theorem wb_by4 (w : Int) (k : Nat) : wb (by4 w k) = by4 w k := wb_wb _
theorem x_append {d : Nat} {M : mM} {Q : mV → mM → Prop} {w : Int} {s : Nat} (h : SH M) (hs : gi M 16 0 = s) (h1 : s ≤ 1996) : CP (mc (d + 1)) 61 [vr (some 16), vi w] M Q = Q vj (ap4 M 16 0 17 s w) := by
  have e1 : ((s : Int) + 1) = ((s + 1 : Nat) : Int) := by omega
  have e2 : (((s + 1 : Nat) : Int) + 1) = ((s + 2 : Nat) : Int) := by omega
  have e3 : (((s + 2 : Nat) : Int) + 1) = ((s + 3 : Nat) : Int) := by omega
  have e4 : (((s + 3 : Nat) : Int) + 1) = ((s + 4 : Nat) : Int) := by omega
  have g0 : ¬ (2000 : Int) ≤ (s : Int) := by omega
  have g1 : ¬ (2000 : Int) ≤ ((s + 1 : Nat) : Int) := by omega
  have g2 : ¬ (2000 : Int) ≤ ((s + 2 : Nat) : Int) := by omega
  have g3 : ¬ (2000 : Int) ≤ ((s + 3 : Nat) : Int) := by omega
  have w1 : wr ((s + 1 : Nat) : Int) = ((s + 1 : Nat) : Int) := wr_id (by omega) (by omega)
  have w2 : wr ((s + 2 : Nat) : Int) = ((s + 2 : Nat) : Int) := wr_id (by omega) (by omega)
  have w3 : wr ((s + 3 : Nat) : Int) = ((s + 3 : Nat) : Int) := wr_id (by omega) (by omega)
  have w4 : wr ((s + 4 : Nat) : Int) = ((s + 4 : Nat) : Int) := wr_id (by omega) (by omega)
  have l0 : 0 ≤ (s : Int) ∧ (s : Int) < 2000 := by omega
  have l1 : 0 ≤ ((s + 1 : Nat) : Int) ∧ ((s + 1 : Nat) : Int) < 2000 := by omega
  have l2 : 0 ≤ ((s + 2 : Nat) : Int) ∧ ((s + 2 : Nat) : Int) < 2000 := by omega
  have l3 : 0 ≤ ((s + 3 : Nat) : Int) ∧ ((s + 3 : Nat) : Int) < 2000 := by omega
  simp only [↓cpX8_append, ↓eX8_append_0, ↓eX8_append_2, ↓eX8_append_3, ↓eX8_append_4, ↓eX8_append_7, ↓eX8_append_8, ↓eX8_append_11, ↓eX8_append_12, ↓eX8_append_15, ↓eX8_append_16, ↓eX8_append_19, ↓eX8_append_20, ↓eX8_append_23, ↓eX8_append_24, ↓eX8_append_27, ↓eX8_append_28, ↓eX8_append_29, ↓eX8_append_30, ↓eX8_append_31, ↓eX8_append_32, ↓eX8_append_33, ↓eX8_append_34, ↓eX8_append_37, ↓eX8_append_38, ↓eX8_append_39, ↓eX8_append_42, ↓eX8_append_45, ↓eX8_append_48, hk0 h, hk1 h, hk2 h, hl2 h, hk3 h, hl3 h, hk4 h, hl4 h, hk5 h, hk6 h, hl6 h, hk7 h, hl7 h, hk8 h, hl8 h, hk9 h, hl9 h, hk10 h, hl10 h, hk11 h, hl11 h, hk12 h, hl12 h, hk13 h, hl13 h, hk14 h, hl14 h, hk15 h, hl15 h, hk16 h, hk17 h, hl17 h, hk18 h, hk19 h, hl19 h, hk20 h, hk21 h, hk22 h, hl22 h, hk23 h, hl23 h, hk24 h, hl24 h, hk25 h, hl25 h, hk26 h, hk27 h, hl27 h, hk28 h, hl28 h, hk29 h, hl29 h, hk30 h, hl30 h, hk31 h, hk32 h, hl32 h, hk33 h, hk34 h, hl34 h, hr0_0 h, hr1_3 h, hr1_4 h, hr1_5 h, hr0_1 h, hr5_3 h, hr6_0 h, hr6_1 h, hr6_2 h, hr6_3 h, hr6_4 h, hr6_5 h, hr5_4 h, hr5_5 h, hr5_6 h, hr0_2 h, hr16_5 h, hr0_3 h, hr18_9 h, hr0_4 h, hr21_2 h, hr21_3 h, hr21_4 h, hr21_5 h, hr26_2 h, hr26_3 h, hr26_4 h, hr26_5 h, hr31_5 h, hr33_5 h, hs, kd_si, gr_si, ln_si, gi_same, gi_na, nl_i, nl_r, nl_j, true_and, and_true, Int.reduceAdd, Int.reduceNeg, wr_id, Int.reduceLE, Int.reduceLT, ↓reduceIte, Int.reduceEq, e1, e2, e3, e4, g0, g1, g2, g3, w1, w2, w3, w4, l0.1, l1.1, l2.1, l3.1, l0.2, l1.2, l2.2, l3.2, Int.toNat_natCast, by4_0, by4_1, by4_2, by4_3, wb_wb, wb_by4, ne_eq, Nat.reduceEqDiff, Nat.reduceLeDiff, and_self, not_false_eq_true, Int.cast_ofNat_Int]
  rfl
theorem y_put {d : Nat} {M : mM} {Q : mV → mM → Prop} {w : Int} {s : Nat} (h : SH M) (hs : gi M 35 2 = s) (h1 : s ≤ 1996) : CP (mc (d + 1)) 124 [vr (some 35), vi w] M Q = Q vj (ap4 M 35 2 36 s w) := by
  have e1 : ((s : Int) + 1) = ((s + 1 : Nat) : Int) := by omega
  have e2 : (((s + 1 : Nat) : Int) + 1) = ((s + 2 : Nat) : Int) := by omega
  have e3 : (((s + 2 : Nat) : Int) + 1) = ((s + 3 : Nat) : Int) := by omega
  have e4 : (((s + 3 : Nat) : Int) + 1) = ((s + 4 : Nat) : Int) := by omega
  have g0 : ¬ (2000 : Int) ≤ (s : Int) := by omega
  have g1 : ¬ (2000 : Int) ≤ ((s + 1 : Nat) : Int) := by omega
  have g2 : ¬ (2000 : Int) ≤ ((s + 2 : Nat) : Int) := by omega
  have g3 : ¬ (2000 : Int) ≤ ((s + 3 : Nat) : Int) := by omega
  have w1 : wr ((s + 1 : Nat) : Int) = ((s + 1 : Nat) : Int) := wr_id (by omega) (by omega)
  have w2 : wr ((s + 2 : Nat) : Int) = ((s + 2 : Nat) : Int) := wr_id (by omega) (by omega)
  have w3 : wr ((s + 3 : Nat) : Int) = ((s + 3 : Nat) : Int) := wr_id (by omega) (by omega)
  have w4 : wr ((s + 4 : Nat) : Int) = ((s + 4 : Nat) : Int) := wr_id (by omega) (by omega)
  have l0 : 0 ≤ (s : Int) ∧ (s : Int) < 2000 := by omega
  have l1 : 0 ≤ ((s + 1 : Nat) : Int) ∧ ((s + 1 : Nat) : Int) < 2000 := by omega
  have l2 : 0 ≤ ((s + 2 : Nat) : Int) ∧ ((s + 2 : Nat) : Int) < 2000 := by omega
  have l3 : 0 ≤ ((s + 3 : Nat) : Int) ∧ ((s + 3 : Nat) : Int) < 2000 := by omega
  simp only [↓cpX12_put, ↓eX12_put_0, ↓eX12_put_2, ↓eX12_put_3, ↓eX12_put_4, ↓eX12_put_7, ↓eX12_put_8, ↓eX12_put_11, ↓eX12_put_12, ↓eX12_put_15, ↓eX12_put_16, ↓eX12_put_17, ↓eX12_put_18, ↓eX12_put_19, ↓eX12_put_20, ↓eX12_put_21, ↓eX12_put_22, ↓eX12_put_25, ↓eX12_put_26, ↓eX12_put_27, ↓eX12_put_30, ↓eX12_put_33, ↓eX12_put_36, hk35 h, hk36 h, hl36 h, hk37 h, hl37 h, hk38 h, hl38 h, hk39 h, hl39 h, hk40 h, hl40 h, hk41 h, hl41 h, hk42 h, hl42 h, hk43 h, hl43 h, hk44 h, hl44 h, hk45 h, hl45 h, hk46 h, hl46 h, hk47 h, hl47 h, hk48 h, hl48 h, hk49 h, hl49 h, hk50 h, hl50 h, hk51 h, hl51 h, hk52 h, hl52 h, hk53 h, hl53 h, hk54 h, hl54 h, hk55 h, hl55 h, hk56 h, hl56 h, hk57 h, hl57 h, hk58 h, hl58 h, hk59 h, hl59 h, hk60 h, hl60 h, hk61 h, hl61 h, hk62 h, hl62 h, hk63 h, hl63 h, hk64 h, hl64 h, hk65 h, hl65 h, hk66 h, hl66 h, hk67 h, hl67 h, hk68 h, hl68 h, hk69 h, hl69 h, hk70 h, hl70 h, hk71 h, hl71 h, hk72 h, hl72 h, hk73 h, hl73 h, hk74 h, hl74 h, hk75 h, hl75 h, hk76 h, hl76 h, hk77 h, hl77 h, hk78 h, hl78 h, hk79 h, hl79 h, hk80 h, hl80 h, hk81 h, hl81 h, hk82 h, hl82 h, hk83 h, hl83 h, hk84 h, hl84 h, hk85 h, hl85 h, hk86 h, hl86 h, hk87 h, hl87 h, hr35_1 h, hr35_3 h, hr35_5 h, hr35_6 h, hr35_7 h, hr35_8 h, hr35_9 h, hr35_20 h, hr35_21 h, hr35_22 h, hr35_23 h, hr35_24 h, hr35_25 h, hr35_26 h, hr35_27 h, hr35_28 h, hr35_30 h, hr35_31 h, hr35_32 h, hr35_36 h, hr35_38 h, hr35_39 h, hr35_40 h, hr35_41 h, hr35_42 h, hr35_43 h, hr35_44 h, hr35_45 h, hr35_52 h, hr35_53 h, hr35_54 h, hr35_56 h, hr35_57 h, hr35_58 h, hr35_59 h, hr35_60 h, hr35_65 h, hr35_66 h, hr35_67 h, hr35_68 h, hr35_69 h, hr35_70 h, hr35_71 h, hr35_72 h, hr35_73 h, hr35_74 h, hr35_75 h, hr35_76 h, hr35_78 h, hr35_79 h, hr35_80 h, hr35_81 h, hs, kd_si, gr_si, ln_si, gi_same, gi_na, nl_i, nl_r, nl_j, true_and, and_true, Int.reduceAdd, Int.reduceNeg, wr_id, Int.reduceLE, Int.reduceLT, ↓reduceIte, Int.reduceEq, e1, e2, e3, e4, g0, g1, g2, g3, w1, w2, w3, w4, l0.1, l1.1, l2.1, l3.1, l0.2, l1.2, l2.2, l3.2, Int.toNat_natCast, by4_0, by4_1, by4_2, by4_3, wb_wb, wb_by4, ne_eq, Nat.reduceEqDiff, Nat.reduceLeDiff, and_self, not_false_eq_true, Int.cast_ofNat_Int]
  rfl
theorem ap4_n (M : mM) (o f t s : Nat) (w : Int) : gi (ap4 M o f t s w) o f = (s + 4 : Nat) := gi_same _ _ _ _
theorem ap4_SH {M : mM} {o f t s : Nat} {w : Int} (h : SH M) : SH (ap4 M o f t s w) := h
def ap20 (M : mM) (o f t s : Nat) (a b c d e : Int) : mM := ap4 (ap4 (ap4 (ap4 (ap4 M o f t s a) o f t (s + 4) b) o f t (s + 8) c) o f t (s + 12) d) o f t (s + 16) e
theorem x_feed {d : Nat} {M : mM} {Q : mV → mM → Prop} {a b c e g : Int} {s : Nat} (h : SH M) (hs : gi M 16 0 = s) : CP (mc (d + 2)) 102 [vr (some 0), vi a, vi b, vi c, vi e, vi g] M Q = if s ≤ 1980 then Q (vi (s + 20 : Nat)) (ap20 M 16 0 17 s a b c e g) else Q (vi (-1)) M := by
  by_cases q : s ≤ 1980
  · rw [if_pos q]
    have q0 : (s : Int) ≤ 1980 := by omega
    have f0 := fun (Q : mV → mM → Prop) => x_append (d := d) (Q := Q) (w := a) h hs (by omega)
    have f1 := fun (Q : mV → mM → Prop) => x_append (d := d) (Q := Q) (w := b) (ap4_SH (o := 16) (f := 0) (t := 17) (s := s) (w := a) h) (ap4_n _ _ _ _ _ _) (by omega)
    have f2 := fun (Q : mV → mM → Prop) => x_append (d := d) (Q := Q) (w := c) (ap4_SH (o := 16) (f := 0) (t := 17) (s := s + 4) (w := b) (ap4_SH (o := 16) (f := 0) (t := 17) (s := s) (w := a) h)) (ap4_n _ _ _ _ _ _) (by omega)
    have f3 := fun (Q : mV → mM → Prop) => x_append (d := d) (Q := Q) (w := e) (ap4_SH (o := 16) (f := 0) (t := 17) (s := s + 8) (w := c) (ap4_SH (o := 16) (f := 0) (t := 17) (s := s + 4) (w := b) (ap4_SH (o := 16) (f := 0) (t := 17) (s := s) (w := a) h))) (ap4_n _ _ _ _ _ _) (by omega)
    have f4 := fun (Q : mV → mM → Prop) => x_append (d := d) (Q := Q) (w := g) (ap4_SH (o := 16) (f := 0) (t := 17) (s := s + 12) (w := e) (ap4_SH (o := 16) (f := 0) (t := 17) (s := s + 8) (w := c) (ap4_SH (o := 16) (f := 0) (t := 17) (s := s + 4) (w := b) (ap4_SH (o := 16) (f := 0) (t := 17) (s := s) (w := a) h)))) (ap4_n _ _ _ _ _ _) (by omega)
    have k0 : ∀ (N : mM) (t u : Nat) (z : Int) (x : Nat), kd (ap4 N 16 0 17 t z) x = kd N x := fun _ _ _ _ _ => rfl
    have r0 : ∀ (N : mM) (t : Nat) (z : Int) (x y : Nat), gr (ap4 N 16 0 17 t z) x y = gr N x y := fun _ _ _ _ _ => rfl
    simp only [↓cpX11_feed, ↓eX11_feed_0, ↓eX11_feed_1, ↓eX11_feed_4, ↓eX11_feed_7, ↓eX11_feed_10, ↓eX11_feed_13, ↓eX11_feed_14, ↓eX11_feed_15, ↓eX11_feed_16, ↓eX11_feed_19, ↓eX11_feed_20, ↓eX11_feed_23, ↓eX11_feed_24, ↓eX11_feed_27, ↓eX11_feed_28, ↓eX11_feed_31, ↓eX11_feed_32, ↓eX11_feed_35, ↓eX11_feed_36, ↓eX11_feed_39, ↓eX11_feed_40, ↓eX11_feed_43, ↓eX11_feed_45, ↓eX11_feed_48, ↓eX11_feed_49, ↓eX11_feed_52, ↓eX11_feed_54, ↓eX11_feed_57, ↓eX11_feed_58, ↓eX11_feed_61, ↓eX11_feed_64, hs, hk0 h, hk1 h, hk2 h, hl2 h, hk3 h, hl3 h, hk4 h, hl4 h, hk5 h, hk6 h, hl6 h, hk7 h, hl7 h, hk8 h, hl8 h, hk9 h, hl9 h, hk10 h, hl10 h, hk11 h, hl11 h, hk12 h, hl12 h, hk13 h, hl13 h, hk14 h, hl14 h, hk15 h, hl15 h, hk16 h, hk17 h, hl17 h, hk18 h, hk19 h, hl19 h, hk20 h, hk21 h, hk22 h, hl22 h, hk23 h, hl23 h, hk24 h, hl24 h, hk25 h, hl25 h, hk26 h, hk27 h, hl27 h, hk28 h, hl28 h, hk29 h, hl29 h, hk30 h, hl30 h, hk31 h, hk32 h, hl32 h, hk33 h, hk34 h, hl34 h, hr0_0 h, hr1_3 h, hr1_4 h, hr1_5 h, hr0_1 h, hr5_3 h, hr6_0 h, hr6_1 h, hr6_2 h, hr6_3 h, hr6_4 h, hr6_5 h, hr5_4 h, hr5_5 h, hr5_6 h, hr0_2 h, hr16_5 h, hr0_3 h, hr18_9 h, hr0_4 h, hr21_2 h, hr21_3 h, hr21_4 h, hr21_5 h, hr26_2 h, hr26_3 h, hr26_4 h, hr26_5 h, hr31_5 h, hr33_5 h, q0, ↓reduceIte, ↓f0, ↓f1, ↓f2, ↓f3, ↓f4, r0, fun (N : mM) (t : Nat) (z : Int) (x : Nat) => k0 N t 0 z x, ap4_n, nl_i, nl_r, nl_j, true_and, and_true, cs_0, Nat.add_assoc, Nat.reduceAdd]
    rfl
  · rw [if_neg q]
    have q0 : ¬ (s : Int) ≤ 1980 := by omega
    simp only [↓cpX11_feed, ↓eX11_feed_0, ↓eX11_feed_1, ↓eX11_feed_4, ↓eX11_feed_7, ↓eX11_feed_10, ↓eX11_feed_13, ↓eX11_feed_14, ↓eX11_feed_15, ↓eX11_feed_16, ↓eX11_feed_19, ↓eX11_feed_20, ↓eX11_feed_23, ↓eX11_feed_24, ↓eX11_feed_27, ↓eX11_feed_28, ↓eX11_feed_31, ↓eX11_feed_32, ↓eX11_feed_35, ↓eX11_feed_36, ↓eX11_feed_39, ↓eX11_feed_40, ↓eX11_feed_43, ↓eX11_feed_45, ↓eX11_feed_48, ↓eX11_feed_49, ↓eX11_feed_52, ↓eX11_feed_54, ↓eX11_feed_57, ↓eX11_feed_58, ↓eX11_feed_61, ↓eX11_feed_64, hs, hk0 h, hk1 h, hk2 h, hl2 h, hk3 h, hl3 h, hk4 h, hl4 h, hk5 h, hk6 h, hl6 h, hk7 h, hl7 h, hk8 h, hl8 h, hk9 h, hl9 h, hk10 h, hl10 h, hk11 h, hl11 h, hk12 h, hl12 h, hk13 h, hl13 h, hk14 h, hl14 h, hk15 h, hl15 h, hk16 h, hk17 h, hl17 h, hk18 h, hk19 h, hl19 h, hk20 h, hk21 h, hk22 h, hl22 h, hk23 h, hl23 h, hk24 h, hl24 h, hk25 h, hl25 h, hk26 h, hk27 h, hl27 h, hk28 h, hl28 h, hk29 h, hl29 h, hk30 h, hl30 h, hk31 h, hk32 h, hl32 h, hk33 h, hk34 h, hl34 h, hr0_0 h, hr1_3 h, hr1_4 h, hr1_5 h, hr0_1 h, hr5_3 h, hr6_0 h, hr6_1 h, hr6_2 h, hr6_3 h, hr6_4 h, hr6_5 h, hr5_4 h, hr5_5 h, hr5_6 h, hr0_2 h, hr16_5 h, hr0_3 h, hr18_9 h, hr0_4 h, hr21_2 h, hr21_3 h, hr21_4 h, hr21_5 h, hr26_2 h, hr26_3 h, hr26_4 h, hr26_5 h, hr31_5 h, hr33_5 h, q0, ↓reduceIte, true_and]
theorem y_feed {d : Nat} {M : mM} {Q : mV → mM → Prop} {a b c e g : Int} {s : Nat} (h : SH M) (hs : gi M 35 2 = s) (hl : s ≤ 2000) : CP (mc (d + 2)) 123 [vr (some 35), vi a, vi b, vi c, vi e, vi g] M Q = if s ≤ 1980 then Q (vi (s + 20 : Nat)) (ap20 M 35 2 36 s a b c e g) else Q (vi (-1)) M := by
  have w0 : wr ((s : Int) + 20) = (s : Int) + 20 := wr_id (by omega) (by omega)
  by_cases q : s ≤ 1980
  · rw [if_pos q]
    have q0 : (s : Int) + 20 ≤ 2000 := by omega
    have f0 := fun (Q : mV → mM → Prop) => y_put (d := d) (Q := Q) (w := a) h hs (by omega)
    have f1 := fun (Q : mV → mM → Prop) => y_put (d := d) (Q := Q) (w := b) (ap4_SH (o := 35) (f := 2) (t := 36) (s := s) (w := a) h) (ap4_n _ _ _ _ _ _) (by omega)
    have f2 := fun (Q : mV → mM → Prop) => y_put (d := d) (Q := Q) (w := c) (ap4_SH (o := 35) (f := 2) (t := 36) (s := s + 4) (w := b) (ap4_SH (o := 35) (f := 2) (t := 36) (s := s) (w := a) h)) (ap4_n _ _ _ _ _ _) (by omega)
    have f3 := fun (Q : mV → mM → Prop) => y_put (d := d) (Q := Q) (w := e) (ap4_SH (o := 35) (f := 2) (t := 36) (s := s + 8) (w := c) (ap4_SH (o := 35) (f := 2) (t := 36) (s := s + 4) (w := b) (ap4_SH (o := 35) (f := 2) (t := 36) (s := s) (w := a) h))) (ap4_n _ _ _ _ _ _) (by omega)
    have f4 := fun (Q : mV → mM → Prop) => y_put (d := d) (Q := Q) (w := g) (ap4_SH (o := 35) (f := 2) (t := 36) (s := s + 12) (w := e) (ap4_SH (o := 35) (f := 2) (t := 36) (s := s + 8) (w := c) (ap4_SH (o := 35) (f := 2) (t := 36) (s := s + 4) (w := b) (ap4_SH (o := 35) (f := 2) (t := 36) (s := s) (w := a) h)))) (ap4_n _ _ _ _ _ _) (by omega)
    have k0 : ∀ (N : mM) (t : Nat) (z : Int) (x : Nat), kd (ap4 N 35 2 36 t z) x = kd N x := fun _ _ _ _ => rfl
    simp only [↓cpX12_feed, ↓eX12_feed_0, ↓eX12_feed_1, ↓eX12_feed_4, ↓eX12_feed_6, ↓eX12_feed_7, ↓eX12_feed_10, ↓eX12_feed_13, ↓eX12_feed_14, ↓eX12_feed_15, ↓eX12_feed_16, ↓eX12_feed_17, ↓eX12_feed_20, ↓eX12_feed_21, ↓eX12_feed_22, ↓eX12_feed_25, ↓eX12_feed_26, ↓eX12_feed_27, ↓eX12_feed_30, ↓eX12_feed_31, ↓eX12_feed_33, ↓eX12_feed_36, ↓eX12_feed_37, ↓eX12_feed_39, ↓eX12_feed_42, ↓eX12_feed_43, ↓eX12_feed_46, hs, hk35 h, hk36 h, hl36 h, hk37 h, hl37 h, hk38 h, hl38 h, hk39 h, hl39 h, hk40 h, hl40 h, hk41 h, hl41 h, hk42 h, hl42 h, hk43 h, hl43 h, hk44 h, hl44 h, hk45 h, hl45 h, hk46 h, hl46 h, hk47 h, hl47 h, hk48 h, hl48 h, hk49 h, hl49 h, hk50 h, hl50 h, hk51 h, hl51 h, hk52 h, hl52 h, hk53 h, hl53 h, hk54 h, hl54 h, hk55 h, hl55 h, hk56 h, hl56 h, hk57 h, hl57 h, hk58 h, hl58 h, hk59 h, hl59 h, hk60 h, hl60 h, hk61 h, hl61 h, hk62 h, hl62 h, hk63 h, hl63 h, hk64 h, hl64 h, hk65 h, hl65 h, hk66 h, hl66 h, hk67 h, hl67 h, hk68 h, hl68 h, hk69 h, hl69 h, hk70 h, hl70 h, hk71 h, hl71 h, hk72 h, hl72 h, hk73 h, hl73 h, hk74 h, hl74 h, hk75 h, hl75 h, hk76 h, hl76 h, hk77 h, hl77 h, hk78 h, hl78 h, hk79 h, hl79 h, hk80 h, hl80 h, hk81 h, hl81 h, hk82 h, hl82 h, hk83 h, hl83 h, hk84 h, hl84 h, hk85 h, hl85 h, hk86 h, hl86 h, hk87 h, hl87 h, hr35_1 h, hr35_3 h, hr35_5 h, hr35_6 h, hr35_7 h, hr35_8 h, hr35_9 h, hr35_20 h, hr35_21 h, hr35_22 h, hr35_23 h, hr35_24 h, hr35_25 h, hr35_26 h, hr35_27 h, hr35_28 h, hr35_30 h, hr35_31 h, hr35_32 h, hr35_36 h, hr35_38 h, hr35_39 h, hr35_40 h, hr35_41 h, hr35_42 h, hr35_43 h, hr35_44 h, hr35_45 h, hr35_52 h, hr35_53 h, hr35_54 h, hr35_56 h, hr35_57 h, hr35_58 h, hr35_59 h, hr35_60 h, hr35_65 h, hr35_66 h, hr35_67 h, hr35_68 h, hr35_69 h, hr35_70 h, hr35_71 h, hr35_72 h, hr35_73 h, hr35_74 h, hr35_75 h, hr35_76 h, hr35_78 h, hr35_79 h, hr35_80 h, hr35_81 h, w0, q0, ↓reduceIte, ↓f0, ↓f1, ↓f2, ↓f3, ↓f4, k0, ap4_n, nl_i, nl_r, nl_j, true_and, and_true, cs_0, Nat.add_assoc, Nat.reduceAdd]
    rfl
  · rw [if_neg q]
    have q0 : ¬ (s : Int) + 20 ≤ 2000 := by omega
    simp only [↓cpX12_feed, ↓eX12_feed_0, ↓eX12_feed_1, ↓eX12_feed_4, ↓eX12_feed_6, ↓eX12_feed_7, ↓eX12_feed_10, ↓eX12_feed_13, ↓eX12_feed_14, ↓eX12_feed_15, ↓eX12_feed_16, ↓eX12_feed_17, ↓eX12_feed_20, ↓eX12_feed_21, ↓eX12_feed_22, ↓eX12_feed_25, ↓eX12_feed_26, ↓eX12_feed_27, ↓eX12_feed_30, ↓eX12_feed_31, ↓eX12_feed_33, ↓eX12_feed_36, ↓eX12_feed_37, ↓eX12_feed_39, ↓eX12_feed_42, ↓eX12_feed_43, ↓eX12_feed_46, hs, hk35 h, hk36 h, hl36 h, hk37 h, hl37 h, hk38 h, hl38 h, hk39 h, hl39 h, hk40 h, hl40 h, hk41 h, hl41 h, hk42 h, hl42 h, hk43 h, hl43 h, hk44 h, hl44 h, hk45 h, hl45 h, hk46 h, hl46 h, hk47 h, hl47 h, hk48 h, hl48 h, hk49 h, hl49 h, hk50 h, hl50 h, hk51 h, hl51 h, hk52 h, hl52 h, hk53 h, hl53 h, hk54 h, hl54 h, hk55 h, hl55 h, hk56 h, hl56 h, hk57 h, hl57 h, hk58 h, hl58 h, hk59 h, hl59 h, hk60 h, hl60 h, hk61 h, hl61 h, hk62 h, hl62 h, hk63 h, hl63 h, hk64 h, hl64 h, hk65 h, hl65 h, hk66 h, hl66 h, hk67 h, hl67 h, hk68 h, hl68 h, hk69 h, hl69 h, hk70 h, hl70 h, hk71 h, hl71 h, hk72 h, hl72 h, hk73 h, hl73 h, hk74 h, hl74 h, hk75 h, hl75 h, hk76 h, hl76 h, hk77 h, hl77 h, hk78 h, hl78 h, hk79 h, hl79 h, hk80 h, hl80 h, hk81 h, hl81 h, hk82 h, hl82 h, hk83 h, hl83 h, hk84 h, hl84 h, hk85 h, hl85 h, hk86 h, hl86 h, hk87 h, hl87 h, hr35_1 h, hr35_3 h, hr35_5 h, hr35_6 h, hr35_7 h, hr35_8 h, hr35_9 h, hr35_20 h, hr35_21 h, hr35_22 h, hr35_23 h, hr35_24 h, hr35_25 h, hr35_26 h, hr35_27 h, hr35_28 h, hr35_30 h, hr35_31 h, hr35_32 h, hr35_36 h, hr35_38 h, hr35_39 h, hr35_40 h, hr35_41 h, hr35_42 h, hr35_43 h, hr35_44 h, hr35_45 h, hr35_52 h, hr35_53 h, hr35_54 h, hr35_56 h, hr35_57 h, hr35_58 h, hr35_59 h, hr35_60 h, hr35_65 h, hr35_66 h, hr35_67 h, hr35_68 h, hr35_69 h, hr35_70 h, hr35_71 h, hr35_72 h, hr35_73 h, hr35_74 h, hr35_75 h, hr35_76 h, hr35_78 h, hr35_79 h, hr35_80 h, hr35_81 h, w0, q0, ↓reduceIte, true_and]
theorem ap4_in {M : mM} {o f t s : Nat} {w : Int} (ho : o ≠ t) {i : Nat} (hi : i < s + 4) : gi (ap4 M o f t s w) t i = if i < s then gi M t i else by4 w (i - s) := by
  have ho' : t ≠ o := fun e => ho e.symm
  unfold ap4
  by_cases h : i < s
  · rw [if_pos h, gi_na ho', gi_ni (by omega), gi_na ho', gi_ni (by omega), gi_na ho', gi_ni (by omega), gi_na ho', gi_ni (by omega)]
  · rw [if_neg h]
    rcases (show i = s ∨ i = s + 1 ∨ i = s + 2 ∨ i = s + 3 by omega) with rfl | rfl | rfl | rfl
    · rw [gi_na ho', gi_ni (by omega), gi_na ho', gi_ni (by omega), gi_na ho', gi_ni (by omega), gi_na ho', gi_same, Nat.sub_self]
    · rw [gi_na ho', gi_ni (by omega), gi_na ho', gi_ni (by omega), gi_na ho', gi_same, show s + 1 - s = 1 by omega]
    · rw [gi_na ho', gi_ni (by omega), gi_na ho', gi_same, show s + 2 - s = 2 by omega]
    · rw [gi_na ho', gi_same, show s + 3 - s = 3 by omega]
theorem ap4_out {M : mM} {o f t s : Nat} {w : Int} {a i : Nat} (h1 : a ≠ o ∨ (a = o ∧ i ≠ f)) (h2 : a ≠ t) : gi (ap4 M o f t s w) a i = gi M a i := by
  unfold ap4
  have k : ∀ (N : mM) (z : Int), gi (si N o f z) a i = gi N a i := fun N z => by
    rw [gi_si, if_neg]
    rintro ⟨q1, q2⟩
    rcases h1 with h1 | h1
    · exact h1 q1
    · exact h1.2 q2
  rw [k, gi_na h2, k, gi_na h2, k, gi_na h2, k, gi_na h2]
/-- the same four bytes behind two rows that are alike -/
theorem ap4_two {M N : mM} {o f t o' f' t' s : Nat} {w : Int} (ho : o ≠ t) (ho' : o' ≠ t') (h : ∀ i, i < s → gi M t i = gi N t' i) : ∀ i, i < s + 4 → gi (ap4 M o f t s w) t i = gi (ap4 N o' f' t' s w) t' i := by
  intro i hi
  rw [ap4_in ho hi, ap4_in ho' hi]
  split
  · exact h i (by assumption)
  · rfl
theorem ap20_n (M : mM) (o f t s : Nat) (a b c d e : Int) : gi (ap20 M o f t s a b c d e) o f = (s + 20 : Nat) := gi_same _ _ _ _
theorem ap20_out {M : mM} {o f t s : Nat} {a b c d e : Int} {x i : Nat} (h1 : x ≠ o ∨ (x = o ∧ i ≠ f)) (h2 : x ≠ t) : gi (ap20 M o f t s a b c d e) x i = gi M x i := by
  unfold ap20
  rw [ap4_out h1 h2, ap4_out h1 h2, ap4_out h1 h2, ap4_out h1 h2, ap4_out h1 h2]
theorem ap20_two {M N : mM} {o f t o' f' t' s : Nat} {a b c d e : Int} (ho : o ≠ t) (ho' : o' ≠ t') (h : ∀ i, i < s → gi M t i = gi N t' i) : ∀ i, i < s + 20 → gi (ap20 M o f t s a b c d e) t i = gi (ap20 N o' f' t' s a b c d e) t' i :=
  ap4_two (s := s + 16) ho ho' (ap4_two (s := s + 12) ho ho' (ap4_two (s := s + 8) ho ho' (ap4_two (s := s + 4) ho ho' (ap4_two ho ho' h))))
theorem nji (z : Int) : vi z ≠ vj := fun w => by cases w
/-- PAIR feed: both answer alike, and the tapes stay alike -/
theorem p_feed {d : Nat} {M : mM} {a b c e g : Int} (h : SH M) (h2 : I2 M) : CP (mc (d + 2)) 102 [vr (some 0), vi a, vi b, vi c, vi e, vi g] M (fun r1 M1 => CP (mc (d + 2)) 123 [vr (some 35), vi a, vi b, vi c, vi e, vi g] M1 (fun r2 M2 => r1 = r2 ∧ r1 ≠ vj ∧ SH M2 ∧ I2 M2 ∧ (∀ x i, (x ≠ 16 ∨ i ≠ 0) → x ≠ 17 → (x ≠ 35 ∨ i ≠ 2) → x ≠ 36 → gi M2 x i = gi M x i) ∧ M2.2 = M.2)) := by
  obtain ⟨⟨k1, k2, k3⟩, k4⟩ := h2
  obtain ⟨s, hs⟩ : ∃ s : Nat, gi M 16 0 = s := ⟨(gi M 16 0).toNat, by omega⟩
  rw [x_feed h hs]
  by_cases q : s ≤ 1980
  · rw [if_pos q]
    have e1 : gi (ap20 M 16 0 17 s a b c e g) 35 2 = s := by
      rw [ap20_out (Or.inl (by decide)) (by decide), k3, hs]
    rw [y_feed (M := ap20 M 16 0 17 s a b c e g) h e1 (by omega), if_pos q]
    refine ⟨rfl, nji _, h, ⟨⟨?_, ?_, ?_⟩, ?_⟩, ?_, rfl⟩
    · rw [ap20_out (Or.inl (by decide)) (by decide), ap20_n]; omega
    · rw [ap20_out (Or.inl (by decide)) (by decide), ap20_n]; omega
    · rw [ap20_n, ap20_out (Or.inl (by decide)) (by decide), ap20_n]
    · intro i hi
      rw [ap20_out (Or.inl (by decide)) (by decide), ap20_n] at hi
      have e2 : ∀ i, i < s → gi (ap20 M 16 0 17 s a b c e g) 36 i = gi M 17 i := fun i hi => by
        rw [ap20_out (Or.inl (by decide)) (by decide)]
        exact k4 i (by omega)
      rw [ap20_out (M := ap20 M 16 0 17 s a b c e g) (x := 17) (Or.inl (by decide)) (by decide)]
      exact ap20_two (by decide) (by decide) e2 i (by omega)
    · intro x i x1 x2 x3 x4
      rw [ap20_out (by omega) x4, ap20_out (by omega) x2]
  · rw [if_neg q, y_feed h (k3.trans hs) (by omega), if_neg q]
    exact ⟨rfl, nji _, h, ⟨⟨k1, k2, k3⟩, k4⟩, fun _ _ _ _ _ _ => rfl, rfl⟩
