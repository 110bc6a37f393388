/-! ===== plain calls: channels, what is known ===== -/
theorem x_channels {d : Nat} {M : mM} {Q : mV → mM → Prop} {n : Int} (h : SH M) : CP (mc (d + 1)) 106 [vr (some 0), vi n] M Q = if (1 ≤ n ∧ n ≤ 6) ∧ gi M 1 2 ≤ 0 then Q (vi 1) (si M 1 0 n) else Q (vi 0) M := by
  simp only [↓cpX11_channels, ↓eX11_channels_0, ↓eX11_channels_1, ↓eX11_channels_2, ↓eX11_channels_5, ↓eX11_channels_6, ↓eX11_channels_8, ↓eX11_channels_11, ↓eX11_channels_12, ↓eX11_channels_15, ↓eX11_channels_18, ↓eX11_channels_21, ↓eX11_channels_22, ↓eX11_channels_23, ↓eX11_channels_24, ↓eX11_channels_27, ↓eX11_channels_28, ↓eX11_channels_31, ↓eX11_channels_32, hk0 h, hk1 h, hk2 h, hl2 h, hk3 h, hl3 h, hk4 h, hl4 h, hk5 h, hk6 h, hl6 h, hk7 h, hl7 h, hk8 h, hl8 h, hk9 h, hl9 h, hk10 h, hl10 h, hk11 h, hl11 h, hk12 h, hl12 h, hk13 h, hl13 h, hk14 h, hl14 h, hk15 h, hl15 h, hk16 h, hk17 h, hl17 h, hk18 h, hk19 h, hl19 h, hk20 h, hk21 h, hk22 h, hl22 h, hk23 h, hl23 h, hk24 h, hl24 h, hk25 h, hl25 h, hk26 h, hk27 h, hl27 h, hk28 h, hl28 h, hk29 h, hl29 h, hk30 h, hl30 h, hk31 h, hk32 h, hl32 h, hk33 h, hk34 h, hl34 h, hr0_0 h, hr1_3 h, hr1_4 h, hr1_5 h, hr0_1 h, hr5_3 h, hr6_0 h, hr6_1 h, hr6_2 h, hr6_3 h, hr6_4 h, hr6_5 h, hr5_4 h, hr5_5 h, hr5_6 h, hr0_2 h, hr16_5 h, hr0_3 h, hr18_9 h, hr0_4 h, hr21_2 h, hr21_3 h, hr21_4 h, hr21_5 h, hr26_2 h, hr26_3 h, hr26_4 h, hr26_5 h, hr31_5 h, hr33_5 h, Int.cast_ofNat_Int, kd_si, gr_si, ln_si, gi_same, gi_na, gi_ni, nl_i, nl_r, nl_j, nj_i, nj_l, nj_r, true_and, and_true, and_self, cs_0, cs_1, cs_2, cs_3, cs_4, ↓reduceIte, Nat.reduceLeDiff, Nat.reduceEqDiff, Nat.reduceAdd, Int.reduceLE, Int.reduceLT, Int.reduceEq, Int.reduceAdd, Int.reduceNeg, Int.reduceToNat, Int.toNat_natCast, ne_eq, not_false_eq_true, not_true_eq_false, or_true, true_or, or_false, false_or]
  repeat (first | refine ifl (fun z => by omega) (fun z => ?_) | refine ifr (fun z => by omega) (fun z => ?_))
  rw [if_pos (by omega)]
theorem y_channels {d : Nat} {M : mM} {Q : mV → mM → Prop} {n : Int} (h : SH M) : CP (mc (d + 1)) 149 [vr (some 35), vi n] M Q = if (1 ≤ n ∧ n ≤ 6) ∧ gi M 35 37 ≤ 0 then Q (vi 1) (si (si M 35 34 n) 35 51 (-1)) else Q (vi 0) M := by
  simp only [↓cpX12_channels, ↓eX12_channels_0, ↓eX12_channels_1, ↓eX12_channels_2, ↓eX12_channels_5, ↓eX12_channels_6, ↓eX12_channels_8, ↓eX12_channels_11, ↓eX12_channels_12, ↓eX12_channels_15, ↓eX12_channels_18, ↓eX12_channels_19, ↓eX12_channels_20, ↓eX12_channels_21, ↓eX12_channels_22, ↓eX12_channels_25, ↓eX12_channels_26, ↓eX12_channels_27, ↓eX12_channels_30, ↓eX12_channels_31, hk35 h, hk36 h, hl36 h, hk37 h, hl37 h, hk38 h, hl38 h, hk39 h, hl39 h, hk40 h, hl40 h, hk41 h, hl41 h, hk42 h, hl42 h, hk43 h, hl43 h, hk44 h, hl44 h, hk45 h, hl45 h, hk46 h, hl46 h, hk47 h, hl47 h, hk48 h, hl48 h, hk49 h, hl49 h, hk50 h, hl50 h, hk51 h, hl51 h, hk52 h, hl52 h, hk53 h, hl53 h, hk54 h, hl54 h, hk55 h, hl55 h, hk56 h, hl56 h, hk57 h, hl57 h, hk58 h, hl58 h, hk59 h, hl59 h, hk60 h, hl60 h, hk61 h, hl61 h, hk62 h, hl62 h, hk63 h, hl63 h, hk64 h, hl64 h, hk65 h, hl65 h, hk66 h, hl66 h, hk67 h, hl67 h, hk68 h, hl68 h, hk69 h, hl69 h, hk70 h, hl70 h, hk71 h, hl71 h, hk72 h, hl72 h, hk73 h, hl73 h, hk74 h, hl74 h, hk75 h, hl75 h, hk76 h, hl76 h, hk77 h, hl77 h, hk78 h, hl78 h, hk79 h, hl79 h, hk80 h, hl80 h, hk81 h, hl81 h, hk82 h, hl82 h, hk83 h, hl83 h, hk84 h, hl84 h, hk85 h, hl85 h, hk86 h, hl86 h, hk87 h, hl87 h, hr35_1 h, hr35_3 h, hr35_5 h, hr35_6 h, hr35_7 h, hr35_8 h, hr35_9 h, hr35_20 h, hr35_21 h, hr35_22 h, hr35_23 h, hr35_24 h, hr35_25 h, hr35_26 h, hr35_27 h, hr35_28 h, hr35_30 h, hr35_31 h, hr35_32 h, hr35_36 h, hr35_38 h, hr35_39 h, hr35_40 h, hr35_41 h, hr35_42 h, hr35_43 h, hr35_44 h, hr35_45 h, hr35_52 h, hr35_53 h, hr35_54 h, hr35_56 h, hr35_57 h, hr35_58 h, hr35_59 h, hr35_60 h, hr35_65 h, hr35_66 h, hr35_67 h, hr35_68 h, hr35_69 h, hr35_70 h, hr35_71 h, hr35_72 h, hr35_73 h, hr35_74 h, hr35_75 h, hr35_76 h, hr35_78 h, hr35_79 h, hr35_80 h, hr35_81 h, Int.cast_ofNat_Int, kd_si, gr_si, ln_si, gi_same, gi_na, gi_ni, nl_i, nl_r, nl_j, nj_i, nj_l, nj_r, true_and, and_true, and_self, cs_0, cs_1, cs_2, cs_3, cs_4, ↓reduceIte, Nat.reduceLeDiff, Nat.reduceEqDiff, Nat.reduceAdd, Int.reduceLE, Int.reduceLT, Int.reduceEq, Int.reduceAdd, Int.reduceNeg, Int.reduceToNat, Int.toNat_natCast, ne_eq, not_false_eq_true, not_true_eq_false, or_true, true_or, or_false, false_or]
  repeat (first | refine ifl (fun z => by omega) (fun z => ?_) | refine ifr (fun z => by omega) (fun z => ?_))
  rw [if_pos (by omega)]
theorem x_isKnown {d : Nat} {M : mM} {Q : mV → mM → Prop} {n : Int} (h : SH M) : CP (mc (d + 1)) 27 [vr (some 1), vi n] M Q = if 0 ≤ n ∧ n ≤ gi M 1 2 then Q (vi 1) M else Q (vi 0) M := by
  simp only [↓cpX3_isKnown, ↓eX3_isKnown_0, ↓eX3_isKnown_1, ↓eX3_isKnown_4, ↓eX3_isKnown_5, ↓eX3_isKnown_6, ↓eX3_isKnown_9, ↓eX3_isKnown_12, ↓eX3_isKnown_13, ↓eX3_isKnown_16, ↓eX3_isKnown_17, hk0 h, hk1 h, hk2 h, hl2 h, hk3 h, hl3 h, hk4 h, hl4 h, hk5 h, hk6 h, hl6 h, hk7 h, hl7 h, hk8 h, hl8 h, hk9 h, hl9 h, hk10 h, hl10 h, hk11 h, hl11 h, hk12 h, hl12 h, hk13 h, hl13 h, hk14 h, hl14 h, hk15 h, hl15 h, hk16 h, hk17 h, hl17 h, hk18 h, hk19 h, hl19 h, hk20 h, hk21 h, hk22 h, hl22 h, hk23 h, hl23 h, hk24 h, hl24 h, hk25 h, hl25 h, hk26 h, hk27 h, hl27 h, hk28 h, hl28 h, hk29 h, hl29 h, hk30 h, hl30 h, hk31 h, hk32 h, hl32 h, hk33 h, hk34 h, hl34 h, hr0_0 h, hr1_3 h, hr1_4 h, hr1_5 h, hr0_1 h, hr5_3 h, hr6_0 h, hr6_1 h, hr6_2 h, hr6_3 h, hr6_4 h, hr6_5 h, hr5_4 h, hr5_5 h, hr5_6 h, hr0_2 h, hr16_5 h, hr0_3 h, hr18_9 h, hr0_4 h, hr21_2 h, hr21_3 h, hr21_4 h, hr21_5 h, hr26_2 h, hr26_3 h, hr26_4 h, hr26_5 h, hr31_5 h, hr33_5 h, Int.cast_ofNat_Int, kd_si, gr_si, ln_si, gi_same, gi_na, gi_ni, nl_i, nl_r, nl_j, nj_i, nj_l, nj_r, true_and, and_true, and_self, cs_0, cs_1, cs_2, cs_3, cs_4, ↓reduceIte, Nat.reduceLeDiff, Nat.reduceEqDiff, Nat.reduceAdd, Int.reduceLE, Int.reduceLT, Int.reduceEq, Int.reduceAdd, Int.reduceNeg, Int.reduceToNat, Int.toNat_natCast, ne_eq, not_false_eq_true, not_true_eq_false, or_true, true_or, or_false, false_or]
  repeat (first | refine ifl (fun z => by omega) (fun z => ?_) | refine ifr (fun z => by omega) (fun z => ?_))
  rw [if_pos (by omega)]
theorem y_isKnown {d : Nat} {M : mM} {Q : mV → mM → Prop} {n : Int} (h : SH M) : CP (mc (d + 1)) 148 [vr (some 35), vi n] M Q = if 0 ≤ n ∧ n ≤ gi M 35 37 then Q (vi 1) M else Q (vi 0) M := by
  simp only [↓cpX12_isKnown, ↓eX12_isKnown_0, ↓eX12_isKnown_1, ↓eX12_isKnown_4, ↓eX12_isKnown_5, ↓eX12_isKnown_6, ↓eX12_isKnown_9, ↓eX12_isKnown_12, ↓eX12_isKnown_13, ↓eX12_isKnown_16, ↓eX12_isKnown_17, hk35 h, hk36 h, hl36 h, hk37 h, hl37 h, hk38 h, hl38 h, hk39 h, hl39 h, hk40 h, hl40 h, hk41 h, hl41 h, hk42 h, hl42 h, hk43 h, hl43 h, hk44 h, hl44 h, hk45 h, hl45 h, hk46 h, hl46 h, hk47 h, hl47 h, hk48 h, hl48 h, hk49 h, hl49 h, hk50 h, hl50 h, hk51 h, hl51 h, hk52 h, hl52 h, hk53 h, hl53 h, hk54 h, hl54 h, hk55 h, hl55 h, hk56 h, hl56 h, hk57 h, hl57 h, hk58 h, hl58 h, hk59 h, hl59 h, hk60 h, hl60 h, hk61 h, hl61 h, hk62 h, hl62 h, hk63 h, hl63 h, hk64 h, hl64 h, hk65 h, hl65 h, hk66 h, hl66 h, hk67 h, hl67 h, hk68 h, hl68 h, hk69 h, hl69 h, hk70 h, hl70 h, hk71 h, hl71 h, hk72 h, hl72 h, hk73 h, hl73 h, hk74 h, hl74 h, hk75 h, hl75 h, hk76 h, hl76 h, hk77 h, hl77 h, hk78 h, hl78 h, hk79 h, hl79 h, hk80 h, hl80 h, hk81 h, hl81 h, hk82 h, hl82 h, hk83 h, hl83 h, hk84 h, hl84 h, hk85 h, hl85 h, hk86 h, hl86 h, hk87 h, hl87 h, hr35_1 h, hr35_3 h, hr35_5 h, hr35_6 h, hr35_7 h, hr35_8 h, hr35_9 h, hr35_20 h, hr35_21 h, hr35_22 h, hr35_23 h, hr35_24 h, hr35_25 h, hr35_26 h, hr35_27 h, hr35_28 h, hr35_30 h, hr35_31 h, hr35_32 h, hr35_36 h, hr35_38 h, hr35_39 h, hr35_40 h, hr35_41 h, hr35_42 h, hr35_43 h, hr35_44 h, hr35_45 h, hr35_52 h, hr35_53 h, hr35_54 h, hr35_56 h, hr35_57 h, hr35_58 h, hr35_59 h, hr35_60 h, hr35_65 h, hr35_66 h, hr35_67 h, hr35_68 h, hr35_69 h, hr35_70 h, hr35_71 h, hr35_72 h, hr35_73 h, hr35_74 h, hr35_75 h, hr35_76 h, hr35_78 h, hr35_79 h, hr35_80 h, hr35_81 h, Int.cast_ofNat_Int, kd_si, gr_si, ln_si, gi_same, gi_na, gi_ni, nl_i, nl_r, nl_j, nj_i, nj_l, nj_r, true_and, and_true, and_self, cs_0, cs_1, cs_2, cs_3, cs_4, ↓reduceIte, Nat.reduceLeDiff, Nat.reduceEqDiff, Nat.reduceAdd, Int.reduceLE, Int.reduceLT, Int.reduceEq, Int.reduceAdd, Int.reduceNeg, Int.reduceToNat, Int.toNat_natCast, ne_eq, not_false_eq_true, not_true_eq_false, or_true, true_or, or_false, false_or]
  repeat (first | refine ifl (fun z => by omega) (fun z => ?_) | refine ifr (fun z => by omega) (fun z => ?_))
  rw [if_pos (by omega)]
theorem x_hasChannel {d : Nat} {M : mM} {Q : mV → mM → Prop} {n : Int} (h : SH M) : CP (mc (d + 1)) 26 [vr (some 1), vi n] M Q = if 0 ≤ n ∧ n < gi M 1 0 then Q (vi 1) M else Q (vi 0) M := by
  simp only [↓cpX3_hasChannel, ↓eX3_hasChannel_0, ↓eX3_hasChannel_1, ↓eX3_hasChannel_4, ↓eX3_hasChannel_5, ↓eX3_hasChannel_6, ↓eX3_hasChannel_9, ↓eX3_hasChannel_12, ↓eX3_hasChannel_13, ↓eX3_hasChannel_16, ↓eX3_hasChannel_17, hk0 h, hk1 h, hk2 h, hl2 h, hk3 h, hl3 h, hk4 h, hl4 h, hk5 h, hk6 h, hl6 h, hk7 h, hl7 h, hk8 h, hl8 h, hk9 h, hl9 h, hk10 h, hl10 h, hk11 h, hl11 h, hk12 h, hl12 h, hk13 h, hl13 h, hk14 h, hl14 h, hk15 h, hl15 h, hk16 h, hk17 h, hl17 h, hk18 h, hk19 h, hl19 h, hk20 h, hk21 h, hk22 h, hl22 h, hk23 h, hl23 h, hk24 h, hl24 h, hk25 h, hl25 h, hk26 h, hk27 h, hl27 h, hk28 h, hl28 h, hk29 h, hl29 h, hk30 h, hl30 h, hk31 h, hk32 h, hl32 h, hk33 h, hk34 h, hl34 h, hr0_0 h, hr1_3 h, hr1_4 h, hr1_5 h, hr0_1 h, hr5_3 h, hr6_0 h, hr6_1 h, hr6_2 h, hr6_3 h, hr6_4 h, hr6_5 h, hr5_4 h, hr5_5 h, hr5_6 h, hr0_2 h, hr16_5 h, hr0_3 h, hr18_9 h, hr0_4 h, hr21_2 h, hr21_3 h, hr21_4 h, hr21_5 h, hr26_2 h, hr26_3 h, hr26_4 h, hr26_5 h, hr31_5 h, hr33_5 h, Int.cast_ofNat_Int, kd_si, gr_si, ln_si, gi_same, gi_na, gi_ni, nl_i, nl_r, nl_j, nj_i, nj_l, nj_r, true_and, and_true, and_self, cs_0, cs_1, cs_2, cs_3, cs_4, ↓reduceIte, Nat.reduceLeDiff, Nat.reduceEqDiff, Nat.reduceAdd, Int.reduceLE, Int.reduceLT, Int.reduceEq, Int.reduceAdd, Int.reduceNeg, Int.reduceToNat, Int.toNat_natCast, ne_eq, not_false_eq_true, not_true_eq_false, or_true, true_or, or_false, false_or]
  repeat (first | refine ifl (fun z => by omega) (fun z => ?_) | refine ifr (fun z => by omega) (fun z => ?_))
  rw [if_pos (by omega)]
theorem y_isChannel {d : Nat} {M : mM} {Q : mV → mM → Prop} {n : Int} (h : SH M) : CP (mc (d + 1)) 146 [vr (some 35), vi n] M Q = if 0 ≤ n ∧ n < gi M 35 34 then Q (vi 1) M else Q (vi 0) M := by
  simp only [↓cpX12_isChannel, ↓eX12_isChannel_0, ↓eX12_isChannel_1, ↓eX12_isChannel_4, ↓eX12_isChannel_5, ↓eX12_isChannel_6, ↓eX12_isChannel_9, ↓eX12_isChannel_12, ↓eX12_isChannel_13, ↓eX12_isChannel_16, ↓eX12_isChannel_17, hk35 h, hk36 h, hl36 h, hk37 h, hl37 h, hk38 h, hl38 h, hk39 h, hl39 h, hk40 h, hl40 h, hk41 h, hl41 h, hk42 h, hl42 h, hk43 h, hl43 h, hk44 h, hl44 h, hk45 h, hl45 h, hk46 h, hl46 h, hk47 h, hl47 h, hk48 h, hl48 h, hk49 h, hl49 h, hk50 h, hl50 h, hk51 h, hl51 h, hk52 h, hl52 h, hk53 h, hl53 h, hk54 h, hl54 h, hk55 h, hl55 h, hk56 h, hl56 h, hk57 h, hl57 h, hk58 h, hl58 h, hk59 h, hl59 h, hk60 h, hl60 h, hk61 h, hl61 h, hk62 h, hl62 h, hk63 h, hl63 h, hk64 h, hl64 h, hk65 h, hl65 h, hk66 h, hl66 h, hk67 h, hl67 h, hk68 h, hl68 h, hk69 h, hl69 h, hk70 h, hl70 h, hk71 h, hl71 h, hk72 h, hl72 h, hk73 h, hl73 h, hk74 h, hl74 h, hk75 h, hl75 h, hk76 h, hl76 h, hk77 h, hl77 h, hk78 h, hl78 h, hk79 h, hl79 h, hk80 h, hl80 h, hk81 h, hl81 h, hk82 h, hl82 h, hk83 h, hl83 h, hk84 h, hl84 h, hk85 h, hl85 h, hk86 h, hl86 h, hk87 h, hl87 h, hr35_1 h, hr35_3 h, hr35_5 h, hr35_6 h, hr35_7 h, hr35_8 h, hr35_9 h, hr35_20 h, hr35_21 h, hr35_22 h, hr35_23 h, hr35_24 h, hr35_25 h, hr35_26 h, hr35_27 h, hr35_28 h, hr35_30 h, hr35_31 h, hr35_32 h, hr35_36 h, hr35_38 h, hr35_39 h, hr35_40 h, hr35_41 h, hr35_42 h, hr35_43 h, hr35_44 h, hr35_45 h, hr35_52 h, hr35_53 h, hr35_54 h, hr35_56 h, hr35_57 h, hr35_58 h, hr35_59 h, hr35_60 h, hr35_65 h, hr35_66 h, hr35_67 h, hr35_68 h, hr35_69 h, hr35_70 h, hr35_71 h, hr35_72 h, hr35_73 h, hr35_74 h, hr35_75 h, hr35_76 h, hr35_78 h, hr35_79 h, hr35_80 h, hr35_81 h, Int.cast_ofNat_Int, kd_si, gr_si, ln_si, gi_same, gi_na, gi_ni, nl_i, nl_r, nl_j, nj_i, nj_l, nj_r, true_and, and_true, and_self, cs_0, cs_1, cs_2, cs_3, cs_4, ↓reduceIte, Nat.reduceLeDiff, Nat.reduceEqDiff, Nat.reduceAdd, Int.reduceLE, Int.reduceLT, Int.reduceEq, Int.reduceAdd, Int.reduceNeg, Int.reduceToNat, Int.toNat_natCast, ne_eq, not_false_eq_true, not_true_eq_false, or_true, true_or, or_false, false_or]
  repeat (first | refine ifl (fun z => by omega) (fun z => ?_) | refine ifr (fun z => by omega) (fun z => ?_))
  rw [if_pos (by omega)]
theorem sw_id (M : mM) (a : Nat) : sw M a (fun j => gi M a j) = M := by
  unfold sw gi
  refine Prod.ext ?_ rfl
  funext b j
  show (if b = a then M.1 a j else M.1 b j) = M.1 b j
  split
  · rename_i h
    rw [h]
  · rfl
theorem sw_si (M : mM) (a i : Nat) (z : Int) (f : Nat → Int) : sw (si M a i z) a f = sw M a f := by
  unfold sw si
  refine Prod.ext ?_ rfl
  funext b j
  show (if b = a then f j else (if b = a ∧ j = i then z else M.1 b j)) = if b = a then f j else M.1 b j
  split
  · rfl
  · rename_i h
    rw [if_neg (fun w => h w.1)]
theorem sw_sw (M : mM) (a : Nat) (f g : Nat → Int) : sw (sw M a f) a g = sw M a g := by
  unfold sw
  refine Prod.ext ?_ rfl
  funext b j
  show (if b = a then g j else (if b = a then f j else M.1 b j)) = if b = a then g j else M.1 b j
  split
  · rfl
  · rfl
/-- a store into a row -/
theorem si_sw (M : mM) (a i : Nat) (z : Int) : si M a i z = sw M a (fun j => if j = i then z else gi M a j) := by
  unfold sw si gi
  refine Prod.ext ?_ rfl
  funext b j
  show (if b = a ∧ j = i then z else M.1 b j) = if b = a then (if j = i then z else M.1 a j) else M.1 b j
  by_cases h : b = a
  · subst h
    by_cases q : j = i
    · rw [if_pos ⟨rfl, q⟩, if_pos rfl, if_pos q]
    · rw [if_neg (fun w => q w.2), if_pos rfl, if_neg q]
  · rw [if_neg (fun w => h w.1), if_neg h]
/-- Arrays.fill: a whole row of one value -/
theorem z_fill_loop {C : mC} {a : Nat} {v : Int} {Q : mV → mM → Prop} (n : Nat) (hn : n < 100000) : ∀ (k : Nat) (i : Nat) (M : mM), i + k = n → kd M a = 14 → ln M a = n → WP C tJ7_fill_53178 5 [vr (some a), vi v, vi i, vi n] [] M Q = Q vj (sw M a (fun j => if i ≤ j ∧ j < n then v else gi M a j)) := by
  intro k
  induction k with
  | zero =>
    intro i M hi hk hl
    have e : ((n : Int) ≤ (i : Int)) = True := eq_true (by omega)
    simp only [↓eJ7_fill_53178_0, ↓eJ7_fill_53178_1, ↓eJ7_fill_53178_2, ↓eJ7_fill_53178_3, ↓eJ7_fill_53178_4, ↓eJ7_fill_53178_5, ↓eJ7_fill_53178_6, ↓eJ7_fill_53178_7, ↓eJ7_fill_53178_10, ↓eJ7_fill_53178_11, ↓eJ7_fill_53178_12, ↓eJ7_fill_53178_13, ↓eJ7_fill_53178_14, ↓eJ7_fill_53178_17, ↓eJ7_fill_53178_20, e, Int.cast_ofNat_Int, kd_si, gr_si, ln_si, gi_same, gi_na, gi_ni, nl_i, nl_r, nl_j, nj_i, nj_l, nj_r, true_and, and_true, and_self, cs_0, cs_1, cs_2, cs_3, cs_4, ↓reduceIte, Nat.reduceLeDiff, Nat.reduceEqDiff, Nat.reduceAdd, Int.reduceLE, Int.reduceLT, Int.reduceEq, Int.reduceAdd, Int.reduceNeg, Int.reduceToNat, Int.toNat_natCast, ne_eq, not_false_eq_true, not_true_eq_false, or_true, true_or, or_false, false_or]
    have e2 : (fun j => if i ≤ j ∧ j < n then v else gi M a j) = fun j => gi M a j := by
      funext j
      rw [if_neg (by omega)]
    rw [e2, sw_id]
  | succ k ih =>
    intro i M hi hk hl
    have e : ((n : Int) ≤ (i : Int)) = False := eq_false (by omega)
    have e0 : 0 ≤ (i : Int) := by omega
    have e1 : (i : Int) < n := by omega
    have e2 : wr ((i : Int) + 1) = ((i + 1 : Nat) : Int) := by rw [wr_id (by omega) (by omega)]; omega
    rw [eJ7_fill_53178_5]
    simp only [↓eJ7_fill_53178_0, ↓eJ7_fill_53178_1, ↓eJ7_fill_53178_2, ↓eJ7_fill_53178_3, ↓eJ7_fill_53178_4, ↓eJ7_fill_53178_6, ↓eJ7_fill_53178_7, ↓eJ7_fill_53178_10, ↓eJ7_fill_53178_11, ↓eJ7_fill_53178_12, ↓eJ7_fill_53178_13, ↓eJ7_fill_53178_14, ↓eJ7_fill_53178_17, ↓eJ7_fill_53178_20, e, e0, e1, e2, hk, hl, Int.cast_ofNat_Int, kd_si, gr_si, ln_si, gi_same, gi_na, gi_ni, nl_i, nl_r, nl_j, nj_i, nj_l, nj_r, true_and, and_true, and_self, cs_0, cs_1, cs_2, cs_3, cs_4, ↓reduceIte, Nat.reduceLeDiff, Nat.reduceEqDiff, Nat.reduceAdd, Int.reduceLE, Int.reduceLT, Int.reduceEq, Int.reduceAdd, Int.reduceNeg, Int.reduceToNat, Int.toNat_natCast, ne_eq, not_false_eq_true, not_true_eq_false, or_true, true_or, or_false, false_or]
    rw [ih (i + 1) (si M a i v) (by omega) hk hl, sw_si]
    congr 2
    funext j
    by_cases q : j = i
    · subst q
      rw [gi_same, if_neg (by omega), if_pos (by omega)]
    · rw [gi_ni q]
      by_cases q2 : i + 1 ≤ j ∧ j < n
      · rw [if_pos q2, if_pos (by omega)]
      · rw [if_neg q2, if_neg (by omega)]
theorem z_fill {d : Nat} {a : Nat} {v : Int} {M : mM} {Q : mV → mM → Prop} (hk : kd M a = 14) (hn : ln M a < 100000) : CP (mc (d + 1)) 183 [vr (some a), vi v] M Q = Q vj (sw M a (fun j => if j < ln M a then v else gi M a j)) := by
  simp only [↓cpJ7_fill_53178, ↓eJ7_fill_53178_0, ↓eJ7_fill_53178_1, ↓eJ7_fill_53178_2, ↓eJ7_fill_53178_3, ↓eJ7_fill_53178_4, hk, Int.cast_ofNat_Int, kd_si, gr_si, ln_si, gi_same, gi_na, gi_ni, nl_i, nl_r, nl_j, nj_i, nj_l, nj_r, true_and, and_true, and_self, cs_0, cs_1, cs_2, cs_3, cs_4, ↓reduceIte, Nat.reduceLeDiff, Nat.reduceEqDiff, Nat.reduceAdd, Int.reduceLE, Int.reduceLT, Int.reduceEq, Int.reduceAdd, Int.reduceNeg, Int.reduceToNat, Int.toNat_natCast, ne_eq, not_false_eq_true, not_true_eq_false, or_true, true_or, or_false, false_or]
  have := z_fill_loop (C := mc d) (a := a) (v := v) (Q := Q) (ln M a) hn (ln M a) 0 M (by omega) hk rfl
  simp only [Nat.zero_le, true_and] at this
  exact this
