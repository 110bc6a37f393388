set_option maxRecDepth 20000 in
def mM1 : mM := (sr (sr (al (si (si (si (si (si (al (sr (sr (al (si (si (si (si (si (al (sr (sr (al (sr (al (sr (al (sr (al (si (si (al (sr (sr (al (sr (al (sr (al (sr (al (si (si (al (sr (si (si (si (si (si (si (si (si (si (si (si (si (si (al (sr (sr (al (si (si (si (si (si (si (si (si (si (al (sr (sr (al (si (si (si (si (si (al (sr (sr (al (sr (al (sr (al (sr (al2 (si (si (si (al (sr (sr (al (sr (al (sr (al (si (si (si (al (al mE 11 0 9) 3 0 6) 1 0 1) 1 1 0) 1 2 0) 20 6 6) 1 3 (some 2)) 20 6 6) 1 4 (some 3)) 18 300 300) 1 5 (some 4)) 0 0 (some 1)) 1 0 7) 5 0 0) 5 1 (-1)) 5 2 0) 6 288) 5 3 (some 6)) 14 288 288) 5 4 (some 13)) 19 600 600) 5 5 (some 14)) 14 1024 1024) 5 6 (some 15)) 0 1 (some 5)) 8 0 6) 16 0 0) 16 1 0) 16 2 0) 16 3 0) 16 4 0) 13 2000 2000) 16 5 (some 17)) 0 2 (some 16)) 9 0 10) 18 0 0) 18 1 (-1)) 18 2 (-1)) 18 3 0) 18 4 0) 18 5 0) 18 6 0) 18 7 0) 18 8 0) 14 23 23) 18 9 (some 19)) 0 3 (some 18)) 5 0 13) 20 0 1) 20 1 0) 20 2 0) 20 3 2000) 20 4 0) 20 5 0) 20 6 0) 20 7 0) 20 8 0) 20 9 0) 20 10 (-1)) 20 11 0) 20 12 0) 0 4 (some 20)) 10 0 6) 21 0 0) 21 1 0) 14 400 400) 21 2 (some 22)) 14 20 20) 21 3 (some 23)) 14 20 20) 21 4 (some 24)) 14 24 24) 21 5 (some 25)) 0 5 (some 21)) 10 0 6) 26 0 0) 26 1 0) 14 400 400) 26 2 (some 27)) 14 20 20) 26 3 (some 28)) 14 20 20) 26 4 (some 29)) 14 24 24) 26 5 (some 30)) 0 6 (some 26)) 4 0 6) 31 0 0) 31 1 (-1)) 31 2 0) 31 3 0) 31 4 0) 17 14 14) 31 5 (some 32)) 0 7 (some 31)) 4 0 6) 33 0 0) 33 1 (-1)) 33 2 0) 33 3 0) 33 4 0) 17 14 14) 33 5 (some 34)) 0 8 (some 33))
set_option maxHeartbeats 4000000 in
set_option maxRecDepth 100000 in
theorem init_C (d : Nat) (Q : mV → mM → Prop) : CP (mc (d + 2)) 101 [vr (some 0)] (al mE 11 0 9) Q = Q vj mM1 := by
  simp only [↓cpX11_init, ↓cpX3_init, ↓cpX1_init, ↓cpX8_init, ↓cpX9_init, ↓cpX5_init, ↓cpX10_init, ↓cpX4_init, ↓eX11_init_0, ↓eX11_init_1, ↓eX11_init_4, ↓eX11_init_5, ↓eX11_init_8, ↓eX11_init_9, ↓eX11_init_12, ↓eX11_init_15, ↓eX11_init_16, ↓eX11_init_19, ↓eX11_init_20, ↓eX11_init_23, ↓eX11_init_26, ↓eX11_init_27, ↓eX11_init_30, ↓eX11_init_31, ↓eX11_init_34, ↓eX11_init_37, ↓eX11_init_38, ↓eX11_init_41, ↓eX11_init_42, ↓eX11_init_45, ↓eX11_init_48, ↓eX11_init_49, ↓eX11_init_52, ↓eX11_init_53, ↓eX11_init_56, ↓eX11_init_59, ↓eX11_init_60, ↓eX11_init_63, ↓eX11_init_64, ↓eX11_init_67, ↓eX11_init_70, ↓eX11_init_71, ↓eX11_init_74, ↓eX11_init_75, ↓eX11_init_78, ↓eX11_init_81, ↓eX11_init_82, ↓eX11_init_85, ↓eX11_init_86, ↓eX11_init_89, ↓eX11_init_92, ↓eX11_init_93, ↓eX11_init_96, ↓eX11_init_97, ↓eX11_init_100, ↓eX11_init_103, ↓eX3_init_0, ↓eX3_init_1, ↓eX3_init_4, ↓eX3_init_5, ↓eX3_init_6, ↓eX3_init_9, ↓eX3_init_10, ↓eX3_init_11, ↓eX3_init_14, ↓eX3_init_15, ↓eX3_init_16, ↓eX3_init_19, ↓eX3_init_20, ↓eX3_init_22, ↓eX3_init_25, ↓eX3_init_28, ↓eX3_init_29, ↓eX3_init_31, ↓eX3_init_34, ↓eX3_init_37, ↓eX3_init_38, ↓eX3_init_41, ↓eX3_init_44, ↓eX3_init_47, ↓eX1_init_0, ↓eX1_init_1, ↓eX1_init_4, ↓eX1_init_5, ↓eX1_init_6, ↓eX1_init_9, ↓eX1_init_10, ↓eX1_init_11, ↓eX1_init_14, ↓eX1_init_15, ↓eX1_init_16, ↓eX1_init_19, ↓eX1_init_20, ↓eX1_init_22, ↓eX1_init_25, ↓eX1_init_29, ↓eX1_init_32, ↓eX1_init_33, ↓eX1_init_36, ↓eX1_init_38, ↓eX1_init_41, ↓eX1_init_42, ↓eX1_init_45, ↓eX1_init_48, ↓eX1_init_51, ↓eX1_init_52, ↓eX1_init_55, ↓eX1_init_57, ↓eX1_init_60, ↓eX8_init_0, ↓eX8_init_1, ↓eX8_init_4, ↓eX8_init_5, ↓eX8_init_6, ↓eX8_init_9, ↓eX8_init_10, ↓eX8_init_11, ↓eX8_init_14, ↓eX8_init_15, ↓eX8_init_16, ↓eX8_init_19, ↓eX8_init_20, ↓eX8_init_21, ↓eX8_init_24, ↓eX8_init_25, ↓eX8_init_26, ↓eX8_init_29, ↓eX8_init_30, ↓eX8_init_33, ↓eX8_init_35, ↓eX8_init_38, ↓eX9_init_0, ↓eX9_init_1, ↓eX9_init_4, ↓eX9_init_5, ↓eX9_init_6, ↓eX9_init_9, ↓eX9_init_10, ↓eX9_init_11, ↓eX9_init_14, ↓eX9_init_15, ↓eX9_init_16, ↓eX9_init_19, ↓eX9_init_20, ↓eX9_init_21, ↓eX9_init_24, ↓eX9_init_25, ↓eX9_init_26, ↓eX9_init_29, ↓eX9_init_30, ↓eX9_init_31, ↓eX9_init_34, ↓eX9_init_35, ↓eX9_init_36, ↓eX9_init_39, ↓eX9_init_40, ↓eX9_init_41, ↓eX9_init_44, ↓eX9_init_45, ↓eX9_init_46, ↓eX9_init_49, ↓eX9_init_50, ↓eX9_init_52, ↓eX9_init_54, ↓eX9_init_57, ↓eX5_init_0, ↓eX5_init_1, ↓eX5_init_4, ↓eX5_init_5, ↓eX5_init_6, ↓eX5_init_9, ↓eX5_init_10, ↓eX5_init_11, ↓eX5_init_14, ↓eX5_init_15, ↓eX5_init_16, ↓eX5_init_19, ↓eX5_init_20, ↓eX5_init_23, ↓eX5_init_26, ↓eX5_init_27, ↓eX5_init_28, ↓eX5_init_31, ↓eX5_init_32, ↓eX5_init_33, ↓eX5_init_36, ↓eX5_init_37, ↓eX5_init_38, ↓eX5_init_41, ↓eX5_init_42, ↓eX5_init_43, ↓eX5_init_46, ↓eX5_init_47, ↓eX5_init_48, ↓eX5_init_51, ↓eX5_init_52, ↓eX5_init_53, ↓eX5_init_56, ↓eX5_init_57, ↓eX5_init_58, ↓eX5_init_61, ↓eX5_init_62, ↓eX5_init_63, ↓eX5_init_66, ↓eX5_init_67, ↓eX5_init_68, ↓eX5_init_71, ↓eX10_init_0, ↓eX10_init_1, ↓eX10_init_4, ↓eX10_init_5, ↓eX10_init_6, ↓eX10_init_9, ↓eX10_init_10, ↓eX10_init_11, ↓eX10_init_14, ↓eX10_init_15, ↓eX10_init_18, ↓eX10_init_20, ↓eX10_init_23, ↓eX10_init_24, ↓eX10_init_26, ↓eX10_init_28, ↓eX10_init_31, ↓eX10_init_32, ↓eX10_init_34, ↓eX10_init_36, ↓eX10_init_39, ↓eX10_init_40, ↓eX10_init_42, ↓eX10_init_44, ↓eX10_init_47, ↓eX4_init_0, ↓eX4_init_1, ↓eX4_init_4, ↓eX4_init_5, ↓eX4_init_6, ↓eX4_init_9, ↓eX4_init_10, ↓eX4_init_11, ↓eX4_init_14, ↓eX4_init_15, ↓eX4_init_16, ↓eX4_init_19, ↓eX4_init_20, ↓eX4_init_21, ↓eX4_init_24, ↓eX4_init_25, ↓eX4_init_26, ↓eX4_init_29, ↓eX4_init_30, ↓eX4_init_32, ↓eX4_init_35, ↓eX4_init_38, kd_si, kd_sr, kd_al, kd_al2, nx_si, nx_sr, nx_al, nx_al2, nx_mE, kd_mE, nl_i, nl_r, nl_j, cs_0, cs_1, cs_2, true_and, and_true, Nat.reduceAdd, Nat.reduceEqDiff, Nat.reduceLeDiff, Int.reduceToNat, Int.reduceLE, reduceIte, and_self, or_true, true_or, Nat.reduceMul]
  exact rfl
/-- a new array in a field of the reference -/
def nA (M : mM) (k n f : Nat) : mM := sr (al M k n n) 35 f (some (nx M))
def OKm (M : mM) : Prop := kd M 35 = 12 ∧ 35 < nx M
theorem nx_nA (M : mM) (k n f : Nat) : nx (nA M k n f) = nx M + 1 := rfl
theorem kd_nA (M : mM) (k n f b : Nat) : kd (nA M k n f) b = if b = nx M then k else kd M b := rfl
theorem ln_nA (M : mM) (k n f b : Nat) : ln (nA M k n f) b = if b = nx M then n else ln M b := rfl
theorem gr_nA {M : mM} {k n f g : Nat} (h : 35 < nx M) : gr (nA M k n f) 35 g = if g = f then some (nx M) else gr M 35 g := by
  unfold nA
  rw [gr_sr, gr_al, if_neg (show ¬ 35 = nx M by omega)]
  by_cases q : g = f
  · rw [if_pos ⟨rfl, q⟩, if_pos q]
  · rw [if_neg (fun w => q w.2), if_neg q]
theorem OK_nA {M : mM} {k n f : Nat} (h : OKm M) : OKm (nA M k n f) := by
  refine ⟨?_, by rw [nx_nA]; have := h.2; omega⟩
  rw [kd_nA, if_neg (by have := h.2; omega)]
  exact h.1
theorem OK_si {M : mM} {f : Nat} {z : Int} (h : OKm M) : OKm (si M 35 f z) := h
theorem pi_4 {C : mC} {M : mM} {Q : mV → mM → Prop} (h : OKm M) : WP C tX12_init 4 [vr (some 35)] [] M Q = WP C tX12_init 13 [vr (some 35)] [] (nA M 13 2000 1) Q := by
  have h2 : ¬ 35 = nx M := by have := h.2; omega
  simp only [↓eX12_init_4, ↓eX12_init_5, ↓eX12_init_8, ↓eX12_init_10, h.1, kd_al, if_neg h2, nl_i, nl_r, true_and, Int.reduceLE, Int.reduceToNat, and_self]
  rfl
theorem pi_13 {C : mC} {M : mM} {Q : mV → mM → Prop} (h : OKm M) : WP C tX12_init 13 [vr (some 35)] [] M Q = WP C tX12_init 22 [vr (some 35)] [] (nA M 13 2000 3) Q := by
  have h2 : ¬ 35 = nx M := by have := h.2; omega
  simp only [↓eX12_init_13, ↓eX12_init_14, ↓eX12_init_17, ↓eX12_init_19, h.1, kd_al, if_neg h2, nl_i, nl_r, true_and, Int.reduceLE, Int.reduceToNat, and_self]
  rfl
theorem pi_22 {C : mC} {M : mM} {Q : mV → mM → Prop} (h : OKm M) : WP C tX12_init 22 [vr (some 35)] [] M Q = WP C tX12_init 31 [vr (some 35)] [] (nA M 14 403 5) Q := by
  have h2 : ¬ 35 = nx M := by have := h.2; omega
  simp only [↓eX12_init_22, ↓eX12_init_23, ↓eX12_init_26, ↓eX12_init_28, h.1, kd_al, if_neg h2, nl_i, nl_r, true_and, Int.reduceLE, Int.reduceToNat, and_self]
  rfl
theorem pi_31 {C : mC} {M : mM} {Q : mV → mM → Prop} (h : OKm M) : WP C tX12_init 31 [vr (some 35)] [] M Q = WP C tX12_init 40 [vr (some 35)] [] (nA M 14 403 6) Q := by
  have h2 : ¬ 35 = nx M := by have := h.2; omega
  simp only [↓eX12_init_31, ↓eX12_init_32, ↓eX12_init_35, ↓eX12_init_37, h.1, kd_al, if_neg h2, nl_i, nl_r, true_and, Int.reduceLE, Int.reduceToNat, and_self]
  rfl
theorem pi_40 {C : mC} {M : mM} {Q : mV → mM → Prop} (h : OKm M) : WP C tX12_init 40 [vr (some 35)] [] M Q = WP C tX12_init 49 [vr (some 35)] [] (nA M 14 403 7) Q := by
  have h2 : ¬ 35 = nx M := by have := h.2; omega
  simp only [↓eX12_init_40, ↓eX12_init_41, ↓eX12_init_44, ↓eX12_init_46, h.1, kd_al, if_neg h2, nl_i, nl_r, true_and, Int.reduceLE, Int.reduceToNat, and_self]
  rfl
theorem pi_49 {C : mC} {M : mM} {Q : mV → mM → Prop} (h : OKm M) : WP C tX12_init 49 [vr (some 35)] [] M Q = WP C tX12_init 58 [vr (some 35)] [] (nA M 15 403 8) Q := by
  have h2 : ¬ 35 = nx M := by have := h.2; omega
  simp only [↓eX12_init_49, ↓eX12_init_50, ↓eX12_init_53, ↓eX12_init_55, h.1, kd_al, if_neg h2, nl_i, nl_r, true_and, Int.reduceLE, Int.reduceToNat, and_self]
  rfl
theorem pi_58 {C : mC} {M : mM} {Q : mV → mM → Prop} (h : OKm M) : WP C tX12_init 58 [vr (some 35)] [] M Q = WP C tX12_init 66 [vr (some 35)] [] (nA M 15 14 9) Q := by
  have h2 : ¬ 35 = nx M := by have := h.2; omega
  simp only [↓eX12_init_58, ↓eX12_init_59, ↓eX12_init_61, ↓eX12_init_63, h.1, kd_al, if_neg h2, nl_i, nl_r, true_and, Int.reduceLE, Int.reduceToNat, and_self]
  rfl
theorem pi_66 {C : mC} {M : mM} {Q : mV → mM → Prop} (h : OKm M) : WP C tX12_init 66 [vr (some 35)] [] M Q = WP C tX12_init 71 [vr (some 35)] [] (si M 35 17 (-1)) Q := by
  simp only [↓eX12_init_66, ↓eX12_init_67, ↓eX12_init_68, h.1, nl_i, nl_r, true_and]
theorem pi_71 {C : mC} {M : mM} {Q : mV → mM → Prop} (h : OKm M) : WP C tX12_init 71 [vr (some 35)] [] M Q = WP C tX12_init 78 [vr (some 35)] [] (nA M 14 2 20) Q := by
  have h2 : ¬ 35 = nx M := by have := h.2; omega
  simp only [↓eX12_init_71, ↓eX12_init_72, ↓eX12_init_73, ↓eX12_init_75, h.1, kd_al, if_neg h2, nl_i, nl_r, true_and, Int.reduceLE, Int.reduceToNat, and_self]
  rfl
theorem pi_78 {C : mC} {M : mM} {Q : mV → mM → Prop} (h : OKm M) : WP C tX12_init 78 [vr (some 35)] [] M Q = WP C tX12_init 86 [vr (some 35)] [] (nA M 14 40 21) Q := by
  have h2 : ¬ 35 = nx M := by have := h.2; omega
  simp only [↓eX12_init_78, ↓eX12_init_79, ↓eX12_init_81, ↓eX12_init_83, h.1, kd_al, if_neg h2, nl_i, nl_r, true_and, Int.reduceLE, Int.reduceToNat, and_self]
  rfl
theorem pi_86 {C : mC} {M : mM} {Q : mV → mM → Prop} (h : OKm M) : WP C tX12_init 86 [vr (some 35)] [] M Q = WP C tX12_init 94 [vr (some 35)] [] (nA M 14 42 22) Q := by
  have h2 : ¬ 35 = nx M := by have := h.2; omega
  simp only [↓eX12_init_86, ↓eX12_init_87, ↓eX12_init_89, ↓eX12_init_91, h.1, kd_al, if_neg h2, nl_i, nl_r, true_and, Int.reduceLE, Int.reduceToNat, and_self]
  rfl
theorem pi_94 {C : mC} {M : mM} {Q : mV → mM → Prop} (h : OKm M) : WP C tX12_init 94 [vr (some 35)] [] M Q = WP C tX12_init 101 [vr (some 35)] [] (nA M 14 2 23) Q := by
  have h2 : ¬ 35 = nx M := by have := h.2; omega
  simp only [↓eX12_init_94, ↓eX12_init_95, ↓eX12_init_96, ↓eX12_init_98, h.1, kd_al, if_neg h2, nl_i, nl_r, true_and, Int.reduceLE, Int.reduceToNat, and_self]
  rfl
theorem pi_101 {C : mC} {M : mM} {Q : mV → mM → Prop} (h : OKm M) : WP C tX12_init 101 [vr (some 35)] [] M Q = WP C tX12_init 110 [vr (some 35)] [] (nA M 14 800 24) Q := by
  have h2 : ¬ 35 = nx M := by have := h.2; omega
  simp only [↓eX12_init_101, ↓eX12_init_102, ↓eX12_init_105, ↓eX12_init_107, h.1, kd_al, if_neg h2, nl_i, nl_r, true_and, Int.reduceLE, Int.reduceToNat, and_self]
  rfl
theorem pi_110 {C : mC} {M : mM} {Q : mV → mM → Prop} (h : OKm M) : WP C tX12_init 110 [vr (some 35)] [] M Q = WP C tX12_init 119 [vr (some 35)] [] (nA M 14 800 25) Q := by
  have h2 : ¬ 35 = nx M := by have := h.2; omega
  simp only [↓eX12_init_110, ↓eX12_init_111, ↓eX12_init_114, ↓eX12_init_116, h.1, kd_al, if_neg h2, nl_i, nl_r, true_and, Int.reduceLE, Int.reduceToNat, and_self]
  rfl
theorem pi_119 {C : mC} {M : mM} {Q : mV → mM → Prop} (h : OKm M) : WP C tX12_init 119 [vr (some 35)] [] M Q = WP C tX12_init 128 [vr (some 35)] [] (nA M 14 800 26) Q := by
  have h2 : ¬ 35 = nx M := by have := h.2; omega
  simp only [↓eX12_init_119, ↓eX12_init_120, ↓eX12_init_123, ↓eX12_init_125, h.1, kd_al, if_neg h2, nl_i, nl_r, true_and, Int.reduceLE, Int.reduceToNat, and_self]
  rfl
theorem pi_128 {C : mC} {M : mM} {Q : mV → mM → Prop} (h : OKm M) : WP C tX12_init 128 [vr (some 35)] [] M Q = WP C tX12_init 137 [vr (some 35)] [] (nA M 14 800 27) Q := by
  have h2 : ¬ 35 = nx M := by have := h.2; omega
  simp only [↓eX12_init_128, ↓eX12_init_129, ↓eX12_init_132, ↓eX12_init_134, h.1, kd_al, if_neg h2, nl_i, nl_r, true_and, Int.reduceLE, Int.reduceToNat, and_self]
  rfl
theorem pi_137 {C : mC} {M : mM} {Q : mV → mM → Prop} (h : OKm M) : WP C tX12_init 137 [vr (some 35)] [] M Q = WP C tX12_init 146 [vr (some 35)] [] (nA M 16 800 28) Q := by
  have h2 : ¬ 35 = nx M := by have := h.2; omega
  simp only [↓eX12_init_137, ↓eX12_init_138, ↓eX12_init_141, ↓eX12_init_143, h.1, kd_al, if_neg h2, nl_i, nl_r, true_and, Int.reduceLE, Int.reduceToNat, and_self]
  rfl
theorem pi_146 {C : mC} {M : mM} {Q : mV → mM → Prop} (h : OKm M) : WP C tX12_init 146 [vr (some 35)] [] M Q = WP C tX12_init 155 [vr (some 35)] [] (nA M 14 1000 30) Q := by
  have h2 : ¬ 35 = nx M := by have := h.2; omega
  simp only [↓eX12_init_146, ↓eX12_init_147, ↓eX12_init_150, ↓eX12_init_152, h.1, kd_al, if_neg h2, nl_i, nl_r, true_and, Int.reduceLE, Int.reduceToNat, and_self]
  rfl
theorem pi_155 {C : mC} {M : mM} {Q : mV → mM → Prop} (h : OKm M) : WP C tX12_init 155 [vr (some 35)] [] M Q = WP C tX12_init 164 [vr (some 35)] [] (nA M 14 1000 31) Q := by
  have h2 : ¬ 35 = nx M := by have := h.2; omega
  simp only [↓eX12_init_155, ↓eX12_init_156, ↓eX12_init_159, ↓eX12_init_161, h.1, kd_al, if_neg h2, nl_i, nl_r, true_and, Int.reduceLE, Int.reduceToNat, and_self]
  rfl
theorem pi_164 {C : mC} {M : mM} {Q : mV → mM → Prop} (h : OKm M) : WP C tX12_init 164 [vr (some 35)] [] M Q = WP C tX12_init 172 [vr (some 35)] [] (nA M 14 48 32) Q := by
  have h2 : ¬ 35 = nx M := by have := h.2; omega
  simp only [↓eX12_init_164, ↓eX12_init_165, ↓eX12_init_167, ↓eX12_init_169, h.1, kd_al, if_neg h2, nl_i, nl_r, true_and, Int.reduceLE, Int.reduceToNat, and_self]
  rfl
theorem pi_172 {C : mC} {M : mM} {Q : mV → mM → Prop} (h : OKm M) : WP C tX12_init 172 [vr (some 35)] [] M Q = WP C tX12_init 180 [vr (some 35)] [] (nA M 14 6 36) Q := by
  have h2 : ¬ 35 = nx M := by have := h.2; omega
  simp only [↓eX12_init_172, ↓eX12_init_173, ↓eX12_init_175, ↓eX12_init_177, h.1, kd_al, if_neg h2, nl_i, nl_r, true_and, Int.reduceLE, Int.reduceToNat, and_self]
  rfl
theorem pi_180 {C : mC} {M : mM} {Q : mV → mM → Prop} (h : OKm M) : WP C tX12_init 180 [vr (some 35)] [] M Q = WP C tX12_init 189 [vr (some 35)] [] (nA M 16 300 38) Q := by
  have h2 : ¬ 35 = nx M := by have := h.2; omega
  simp only [↓eX12_init_180, ↓eX12_init_181, ↓eX12_init_184, ↓eX12_init_186, h.1, kd_al, if_neg h2, nl_i, nl_r, true_and, Int.reduceLE, Int.reduceToNat, and_self]
  rfl
theorem pi_189 {C : mC} {M : mM} {Q : mV → mM → Prop} (h : OKm M) : WP C tX12_init 189 [vr (some 35)] [] M Q = WP C tX12_init 198 [vr (some 35)] [] (nA M 14 300 39) Q := by
  have h2 : ¬ 35 = nx M := by have := h.2; omega
  simp only [↓eX12_init_189, ↓eX12_init_190, ↓eX12_init_193, ↓eX12_init_195, h.1, kd_al, if_neg h2, nl_i, nl_r, true_and, Int.reduceLE, Int.reduceToNat, and_self]
  rfl
theorem pi_198 {C : mC} {M : mM} {Q : mV → mM → Prop} (h : OKm M) : WP C tX12_init 198 [vr (some 35)] [] M Q = WP C tX12_init 207 [vr (some 35)] [] (nA M 14 300 40) Q := by
  have h2 : ¬ 35 = nx M := by have := h.2; omega
  simp only [↓eX12_init_198, ↓eX12_init_199, ↓eX12_init_202, ↓eX12_init_204, h.1, kd_al, if_neg h2, nl_i, nl_r, true_and, Int.reduceLE, Int.reduceToNat, and_self]
  rfl
theorem pi_207 {C : mC} {M : mM} {Q : mV → mM → Prop} (h : OKm M) : WP C tX12_init 207 [vr (some 35)] [] M Q = WP C tX12_init 216 [vr (some 35)] [] (nA M 14 300 41) Q := by
  have h2 : ¬ 35 = nx M := by have := h.2; omega
  simp only [↓eX12_init_207, ↓eX12_init_208, ↓eX12_init_211, ↓eX12_init_213, h.1, kd_al, if_neg h2, nl_i, nl_r, true_and, Int.reduceLE, Int.reduceToNat, and_self]
  rfl
theorem pi_216 {C : mC} {M : mM} {Q : mV → mM → Prop} (h : OKm M) : WP C tX12_init 216 [vr (some 35)] [] M Q = WP C tX12_init 225 [vr (some 35)] [] (nA M 14 300 42) Q := by
  have h2 : ¬ 35 = nx M := by have := h.2; omega
  simp only [↓eX12_init_216, ↓eX12_init_217, ↓eX12_init_220, ↓eX12_init_222, h.1, kd_al, if_neg h2, nl_i, nl_r, true_and, Int.reduceLE, Int.reduceToNat, and_self]
  rfl
theorem pi_225 {C : mC} {M : mM} {Q : mV → mM → Prop} (h : OKm M) : WP C tX12_init 225 [vr (some 35)] [] M Q = WP C tX12_init 234 [vr (some 35)] [] (nA M 14 300 43) Q := by
  have h2 : ¬ 35 = nx M := by have := h.2; omega
  simp only [↓eX12_init_225, ↓eX12_init_226, ↓eX12_init_229, ↓eX12_init_231, h.1, kd_al, if_neg h2, nl_i, nl_r, true_and, Int.reduceLE, Int.reduceToNat, and_self]
  rfl
theorem pi_234 {C : mC} {M : mM} {Q : mV → mM → Prop} (h : OKm M) : WP C tX12_init 234 [vr (some 35)] [] M Q = WP C tX12_init 243 [vr (some 35)] [] (nA M 14 300 44) Q := by
  have h2 : ¬ 35 = nx M := by have := h.2; omega
  simp only [↓eX12_init_234, ↓eX12_init_235, ↓eX12_init_238, ↓eX12_init_240, h.1, kd_al, if_neg h2, nl_i, nl_r, true_and, Int.reduceLE, Int.reduceToNat, and_self]
  rfl
theorem pi_243 {C : mC} {M : mM} {Q : mV → mM → Prop} (h : OKm M) : WP C tX12_init 243 [vr (some 35)] [] M Q = WP C tX12_init 252 [vr (some 35)] [] (nA M 16 300 45) Q := by
  have h2 : ¬ 35 = nx M := by have := h.2; omega
  simp only [↓eX12_init_243, ↓eX12_init_244, ↓eX12_init_247, ↓eX12_init_249, h.1, kd_al, if_neg h2, nl_i, nl_r, true_and, Int.reduceLE, Int.reduceToNat, and_self]
  rfl
theorem pi_252 {C : mC} {M : mM} {Q : mV → mM → Prop} (h : OKm M) : WP C tX12_init 252 [vr (some 35)] [] M Q = WP C tX12_init 257 [vr (some 35)] [] (si M 35 51 (-1)) Q := by
  simp only [↓eX12_init_252, ↓eX12_init_253, ↓eX12_init_254, h.1, nl_i, nl_r, true_and]
theorem pi_257 {C : mC} {M : mM} {Q : mV → mM → Prop} (h : OKm M) : WP C tX12_init 257 [vr (some 35)] [] M Q = WP C tX12_init 266 [vr (some 35)] [] (nA M 14 288 52) Q := by
  have h2 : ¬ 35 = nx M := by have := h.2; omega
  simp only [↓eX12_init_257, ↓eX12_init_258, ↓eX12_init_261, ↓eX12_init_263, h.1, kd_al, if_neg h2, nl_i, nl_r, true_and, Int.reduceLE, Int.reduceToNat, and_self]
  rfl
theorem pi_266 {C : mC} {M : mM} {Q : mV → mM → Prop} (h : OKm M) : WP C tX12_init 266 [vr (some 35)] [] M Q = WP C tX12_init 275 [vr (some 35)] [] (nA M 14 1728 53) Q := by
  have h2 : ¬ 35 = nx M := by have := h.2; omega
  simp only [↓eX12_init_266, ↓eX12_init_267, ↓eX12_init_270, ↓eX12_init_272, h.1, kd_al, if_neg h2, nl_i, nl_r, true_and, Int.reduceLE, Int.reduceToNat, and_self]
  rfl
theorem pi_275 {C : mC} {M : mM} {Q : mV → mM → Prop} (h : OKm M) : WP C tX12_init 275 [vr (some 35)] [] M Q = WP C tX12_init 284 [vr (some 35)] [] (nA M 14 288 54) Q := by
  have h2 : ¬ 35 = nx M := by have := h.2; omega
  simp only [↓eX12_init_275, ↓eX12_init_276, ↓eX12_init_279, ↓eX12_init_281, h.1, kd_al, if_neg h2, nl_i, nl_r, true_and, Int.reduceLE, Int.reduceToNat, and_self]
  rfl
theorem pi_284 {C : mC} {M : mM} {Q : mV → mM → Prop} (h : OKm M) : WP C tX12_init 284 [vr (some 35)] [] M Q = WP C tX12_init 293 [vr (some 35)] [] (nA M 14 1728 56) Q := by
  have h2 : ¬ 35 = nx M := by have := h.2; omega
  simp only [↓eX12_init_284, ↓eX12_init_285, ↓eX12_init_288, ↓eX12_init_290, h.1, kd_al, if_neg h2, nl_i, nl_r, true_and, Int.reduceLE, Int.reduceToNat, and_self]
  rfl
theorem pi_293 {C : mC} {M : mM} {Q : mV → mM → Prop} (h : OKm M) : WP C tX12_init 293 [vr (some 35)] [] M Q = WP C tX12_init 302 [vr (some 35)] [] (nA M 14 1728 57) Q := by
  have h2 : ¬ 35 = nx M := by have := h.2; omega
  simp only [↓eX12_init_293, ↓eX12_init_294, ↓eX12_init_297, ↓eX12_init_299, h.1, kd_al, if_neg h2, nl_i, nl_r, true_and, Int.reduceLE, Int.reduceToNat, and_self]
  rfl
theorem pi_302 {C : mC} {M : mM} {Q : mV → mM → Prop} (h : OKm M) : WP C tX12_init 302 [vr (some 35)] [] M Q = WP C tX12_init 311 [vr (some 35)] [] (nA M 14 1728 58) Q := by
  have h2 : ¬ 35 = nx M := by have := h.2; omega
  simp only [↓eX12_init_302, ↓eX12_init_303, ↓eX12_init_306, ↓eX12_init_308, h.1, kd_al, if_neg h2, nl_i, nl_r, true_and, Int.reduceLE, Int.reduceToNat, and_self]
  rfl
theorem pi_311 {C : mC} {M : mM} {Q : mV → mM → Prop} (h : OKm M) : WP C tX12_init 311 [vr (some 35)] [] M Q = WP C tX12_init 320 [vr (some 35)] [] (nA M 14 1728 59) Q := by
  have h2 : ¬ 35 = nx M := by have := h.2; omega
  simp only [↓eX12_init_311, ↓eX12_init_312, ↓eX12_init_315, ↓eX12_init_317, h.1, kd_al, if_neg h2, nl_i, nl_r, true_and, Int.reduceLE, Int.reduceToNat, and_self]
  rfl
theorem pi_320 {C : mC} {M : mM} {Q : mV → mM → Prop} (h : OKm M) : WP C tX12_init 320 [vr (some 35)] [] M Q = WP C tX12_init 329 [vr (some 35)] [] (nA M 14 500 60) Q := by
  have h2 : ¬ 35 = nx M := by have := h.2; omega
  simp only [↓eX12_init_320, ↓eX12_init_321, ↓eX12_init_324, ↓eX12_init_326, h.1, kd_al, if_neg h2, nl_i, nl_r, true_and, Int.reduceLE, Int.reduceToNat, and_self]
  rfl
theorem pi_329 {C : mC} {M : mM} {Q : mV → mM → Prop} (h : OKm M) : WP C tX12_init 329 [vr (some 35)] [] M Q = WP C tX12_init 334 [vr (some 35)] [] (si M 35 61 (-1)) Q := by
  simp only [↓eX12_init_329, ↓eX12_init_330, ↓eX12_init_331, h.1, nl_i, nl_r, true_and]
theorem pi_334 {C : mC} {M : mM} {Q : mV → mM → Prop} (h : OKm M) : WP C tX12_init 334 [vr (some 35)] [] M Q = WP C tX12_init 342 [vr (some 35)] [] (nA M 14 14 65) Q := by
  have h2 : ¬ 35 = nx M := by have := h.2; omega
  simp only [↓eX12_init_334, ↓eX12_init_335, ↓eX12_init_337, ↓eX12_init_339, h.1, kd_al, if_neg h2, nl_i, nl_r, true_and, Int.reduceLE, Int.reduceToNat, and_self]
  rfl
theorem pi_342 {C : mC} {M : mM} {Q : mV → mM → Prop} (h : OKm M) : WP C tX12_init 342 [vr (some 35)] [] M Q = WP C tX12_init 350 [vr (some 35)] [] (nA M 14 14 66) Q := by
  have h2 : ¬ 35 = nx M := by have := h.2; omega
  simp only [↓eX12_init_342, ↓eX12_init_343, ↓eX12_init_345, ↓eX12_init_347, h.1, kd_al, if_neg h2, nl_i, nl_r, true_and, Int.reduceLE, Int.reduceToNat, and_self]
  rfl
theorem pi_350 {C : mC} {M : mM} {Q : mV → mM → Prop} (h : OKm M) : WP C tX12_init 350 [vr (some 35)] [] M Q = WP C tX12_init 358 [vr (some 35)] [] (nA M 14 14 67) Q := by
  have h2 : ¬ 35 = nx M := by have := h.2; omega
  simp only [↓eX12_init_350, ↓eX12_init_351, ↓eX12_init_353, ↓eX12_init_355, h.1, kd_al, if_neg h2, nl_i, nl_r, true_and, Int.reduceLE, Int.reduceToNat, and_self]
  rfl
theorem pi_358 {C : mC} {M : mM} {Q : mV → mM → Prop} (h : OKm M) : WP C tX12_init 358 [vr (some 35)] [] M Q = WP C tX12_init 366 [vr (some 35)] [] (nA M 14 14 68) Q := by
  have h2 : ¬ 35 = nx M := by have := h.2; omega
  simp only [↓eX12_init_358, ↓eX12_init_359, ↓eX12_init_361, ↓eX12_init_363, h.1, kd_al, if_neg h2, nl_i, nl_r, true_and, Int.reduceLE, Int.reduceToNat, and_self]
  rfl
theorem pi_366 {C : mC} {M : mM} {Q : mV → mM → Prop} (h : OKm M) : WP C tX12_init 366 [vr (some 35)] [] M Q = WP C tX12_init 374 [vr (some 35)] [] (nA M 14 14 69) Q := by
  have h2 : ¬ 35 = nx M := by have := h.2; omega
  simp only [↓eX12_init_366, ↓eX12_init_367, ↓eX12_init_369, ↓eX12_init_371, h.1, kd_al, if_neg h2, nl_i, nl_r, true_and, Int.reduceLE, Int.reduceToNat, and_self]
  rfl
theorem pi_374 {C : mC} {M : mM} {Q : mV → mM → Prop} (h : OKm M) : WP C tX12_init 374 [vr (some 35)] [] M Q = WP C tX12_init 382 [vr (some 35)] [] (nA M 14 14 70) Q := by
  have h2 : ¬ 35 = nx M := by have := h.2; omega
  simp only [↓eX12_init_374, ↓eX12_init_375, ↓eX12_init_377, ↓eX12_init_379, h.1, kd_al, if_neg h2, nl_i, nl_r, true_and, Int.reduceLE, Int.reduceToNat, and_self]
  rfl
theorem pi_382 {C : mC} {M : mM} {Q : mV → mM → Prop} (h : OKm M) : WP C tX12_init 382 [vr (some 35)] [] M Q = WP C tX12_init 390 [vr (some 35)] [] (nA M 14 14 71) Q := by
  have h2 : ¬ 35 = nx M := by have := h.2; omega
  simp only [↓eX12_init_382, ↓eX12_init_383, ↓eX12_init_385, ↓eX12_init_387, h.1, kd_al, if_neg h2, nl_i, nl_r, true_and, Int.reduceLE, Int.reduceToNat, and_self]
  rfl
theorem pi_390 {C : mC} {M : mM} {Q : mV → mM → Prop} (h : OKm M) : WP C tX12_init 390 [vr (some 35)] [] M Q = WP C tX12_init 398 [vr (some 35)] [] (nA M 14 14 72) Q := by
  have h2 : ¬ 35 = nx M := by have := h.2; omega
  simp only [↓eX12_init_390, ↓eX12_init_391, ↓eX12_init_393, ↓eX12_init_395, h.1, kd_al, if_neg h2, nl_i, nl_r, true_and, Int.reduceLE, Int.reduceToNat, and_self]
  rfl
theorem pi_398 {C : mC} {M : mM} {Q : mV → mM → Prop} (h : OKm M) : WP C tX12_init 398 [vr (some 35)] [] M Q = WP C tX12_init 406 [vr (some 35)] [] (nA M 16 14 73) Q := by
  have h2 : ¬ 35 = nx M := by have := h.2; omega
  simp only [↓eX12_init_398, ↓eX12_init_399, ↓eX12_init_401, ↓eX12_init_403, h.1, kd_al, if_neg h2, nl_i, nl_r, true_and, Int.reduceLE, Int.reduceToNat, and_self]
  rfl
theorem pi_406 {C : mC} {M : mM} {Q : mV → mM → Prop} (h : OKm M) : WP C tX12_init 406 [vr (some 35)] [] M Q = WP C tX12_init 414 [vr (some 35)] [] (nA M 16 14 74) Q := by
  have h2 : ¬ 35 = nx M := by have := h.2; omega
  simp only [↓eX12_init_406, ↓eX12_init_407, ↓eX12_init_409, ↓eX12_init_411, h.1, kd_al, if_neg h2, nl_i, nl_r, true_and, Int.reduceLE, Int.reduceToNat, and_self]
  rfl
theorem pi_414 {C : mC} {M : mM} {Q : mV → mM → Prop} (h : OKm M) : WP C tX12_init 414 [vr (some 35)] [] M Q = WP C tX12_init 422 [vr (some 35)] [] (nA M 14 14 75) Q := by
  have h2 : ¬ 35 = nx M := by have := h.2; omega
  simp only [↓eX12_init_414, ↓eX12_init_415, ↓eX12_init_417, ↓eX12_init_419, h.1, kd_al, if_neg h2, nl_i, nl_r, true_and, Int.reduceLE, Int.reduceToNat, and_self]
  rfl
theorem pi_422 {C : mC} {M : mM} {Q : mV → mM → Prop} (h : OKm M) : WP C tX12_init 422 [vr (some 35)] [] M Q = WP C tX12_init 430 [vr (some 35)] [] (nA M 14 14 76) Q := by
  have h2 : ¬ 35 = nx M := by have := h.2; omega
  simp only [↓eX12_init_422, ↓eX12_init_423, ↓eX12_init_425, ↓eX12_init_427, h.1, kd_al, if_neg h2, nl_i, nl_r, true_and, Int.reduceLE, Int.reduceToNat, and_self]
  rfl
theorem pi_430 {C : mC} {M : mM} {Q : mV → mM → Prop} (h : OKm M) : WP C tX12_init 430 [vr (some 35)] [] M Q = WP C tX12_init 438 [vr (some 35)] [] (nA M 14 14 78) Q := by
  have h2 : ¬ 35 = nx M := by have := h.2; omega
  simp only [↓eX12_init_430, ↓eX12_init_431, ↓eX12_init_433, ↓eX12_init_435, h.1, kd_al, if_neg h2, nl_i, nl_r, true_and, Int.reduceLE, Int.reduceToNat, and_self]
  rfl
theorem pi_438 {C : mC} {M : mM} {Q : mV → mM → Prop} (h : OKm M) : WP C tX12_init 438 [vr (some 35)] [] M Q = WP C tX12_init 446 [vr (some 35)] [] (nA M 14 14 79) Q := by
  have h2 : ¬ 35 = nx M := by have := h.2; omega
  simp only [↓eX12_init_438, ↓eX12_init_439, ↓eX12_init_441, ↓eX12_init_443, h.1, kd_al, if_neg h2, nl_i, nl_r, true_and, Int.reduceLE, Int.reduceToNat, and_self]
  rfl
theorem pi_446 {C : mC} {M : mM} {Q : mV → mM → Prop} (h : OKm M) : WP C tX12_init 446 [vr (some 35)] [] M Q = WP C tX12_init 454 [vr (some 35)] [] (nA M 14 14 80) Q := by
  have h2 : ¬ 35 = nx M := by have := h.2; omega
  simp only [↓eX12_init_446, ↓eX12_init_447, ↓eX12_init_449, ↓eX12_init_451, h.1, kd_al, if_neg h2, nl_i, nl_r, true_and, Int.reduceLE, Int.reduceToNat, and_self]
  rfl
theorem pi_454 {C : mC} {M : mM} {Q : mV → mM → Prop} (h : OKm M) : WP C tX12_init 454 [vr (some 35)] [] M Q = WP C tX12_init 462 [vr (some 35)] [] (nA M 14 14 81) Q := by
  have h2 : ¬ 35 = nx M := by have := h.2; omega
  simp only [↓eX12_init_454, ↓eX12_init_455, ↓eX12_init_457, ↓eX12_init_459, h.1, kd_al, if_neg h2, nl_i, nl_r, true_and, Int.reduceLE, Int.reduceToNat, and_self]
  rfl
theorem pi_462 {d : Nat} {M : mM} {Q : mV → mM → Prop} (h : OKm M) (h1 : gr M 35 9 = some 42) (h2 : kd M 42 = 15) (h3 : ln M 42 = 14) : WP (mc (d + 2)) tX12_init 462 [vr (some 35)] [] M Q = WP (mc (d + 2)) tX12_init 482 [vr (some 35)] [] (si M 42 0 459791) Q := by
  simp only [↓eX12_init_462, ↓eX12_init_463, ↓eX12_init_466, ↓eX12_init_467, ↓eX12_init_469, ↓eX12_init_471, ↓eX12_init_473, ↓eX12_init_475, ↓eX12_init_476, ↓eX12_init_477, ↓eX12_init_478, ↓eX12_init_481, ↓cpX12_word, ↓cpX12_more, ↓eX12_word_0, ↓eX12_word_1, ↓eX12_word_2, ↓eX12_word_5, ↓eX12_word_6, ↓eX12_word_9, ↓eX12_word_10, ↓eX12_word_13, ↓eX12_word_14, ↓eX12_word_17, ↓eX12_word_19, ↓eX12_word_22, ↓eX12_word_24, ↓eX12_word_27, ↓eX12_word_29, ↓eX12_word_32, ↓eX12_more_0, ↓eX12_more_1, ↓eX12_more_4, ↓eX12_more_5, ↓eX12_more_8, ↓eX12_more_11, ↓eX12_more_12, ↓eX12_more_13, ↓eX12_more_14, ↓eX12_more_16, ↓eX12_more_17, ↓eX12_more_18, ↓eX12_more_19, ↓eX12_more_20, ↓eX12_more_21, h.1, h1, h2, h3, nl_i, nl_r, nl_j, nj_i, nj_l, cs_0, cs_1, cs_2, cs_3, cs_4, true_and, and_true, Int.reduceLE, Int.reduceLT, Int.reduceToNat, Int.reduceAdd, Int.reduceSub, Int.reduceMul, Int.reduceNeg, Int.reduceEq, reduceIte, and_self, wr_id, wl_id, Int.cast_ofNat_Int]
theorem pi_482 {d : Nat} {M : mM} {Q : mV → mM → Prop} (h : OKm M) (h1 : gr M 35 9 = some 42) (h2 : kd M 42 = 15) (h3 : ln M 42 = 14) : WP (mc (d + 2)) tX12_init 482 [vr (some 35)] [] M Q = WP (mc (d + 2)) tX12_init 500 [vr (some 35)] [] (si M 42 1 249) Q := by
  simp only [↓eX12_init_482, ↓eX12_init_483, ↓eX12_init_486, ↓eX12_init_487, ↓eX12_init_489, ↓eX12_init_491, ↓eX12_init_492, ↓eX12_init_493, ↓eX12_init_494, ↓eX12_init_495, ↓eX12_init_496, ↓eX12_init_499, ↓cpX12_word, ↓cpX12_more, ↓eX12_word_0, ↓eX12_word_1, ↓eX12_word_2, ↓eX12_word_5, ↓eX12_word_6, ↓eX12_word_9, ↓eX12_word_10, ↓eX12_word_13, ↓eX12_word_14, ↓eX12_word_17, ↓eX12_word_19, ↓eX12_word_22, ↓eX12_word_24, ↓eX12_word_27, ↓eX12_word_29, ↓eX12_word_32, ↓eX12_more_0, ↓eX12_more_1, ↓eX12_more_4, ↓eX12_more_5, ↓eX12_more_8, ↓eX12_more_11, ↓eX12_more_12, ↓eX12_more_13, ↓eX12_more_14, ↓eX12_more_16, ↓eX12_more_17, ↓eX12_more_18, ↓eX12_more_19, ↓eX12_more_20, ↓eX12_more_21, h.1, h1, h2, h3, nl_i, nl_r, nl_j, nj_i, nj_l, cs_0, cs_1, cs_2, cs_3, cs_4, true_and, and_true, Int.reduceLE, Int.reduceLT, Int.reduceToNat, Int.reduceAdd, Int.reduceSub, Int.reduceMul, Int.reduceNeg, Int.reduceEq, reduceIte, and_self, wr_id, wl_id, Int.cast_ofNat_Int]
theorem pi_500 {d : Nat} {M : mM} {Q : mV → mM → Prop} (h : OKm M) (h1 : gr M 35 9 = some 42) (h2 : kd M 42 = 15) (h3 : ln M 42 = 14) : WP (mc (d + 2)) tX12_init 500 [vr (some 35)] [] M Q = WP (mc (d + 2)) tX12_init 521 [vr (some 35)] [] (si M 42 2 7554780) Q := by
  simp only [↓eX12_init_500, ↓eX12_init_501, ↓eX12_init_504, ↓eX12_init_505, ↓eX12_init_507, ↓eX12_init_509, ↓eX12_init_511, ↓eX12_init_513, ↓eX12_init_515, ↓eX12_init_516, ↓eX12_init_517, ↓eX12_init_520, ↓cpX12_word, ↓cpX12_more, ↓eX12_word_0, ↓eX12_word_1, ↓eX12_word_2, ↓eX12_word_5, ↓eX12_word_6, ↓eX12_word_9, ↓eX12_word_10, ↓eX12_word_13, ↓eX12_word_14, ↓eX12_word_17, ↓eX12_word_19, ↓eX12_word_22, ↓eX12_word_24, ↓eX12_word_27, ↓eX12_word_29, ↓eX12_word_32, ↓eX12_more_0, ↓eX12_more_1, ↓eX12_more_4, ↓eX12_more_5, ↓eX12_more_8, ↓eX12_more_11, ↓eX12_more_12, ↓eX12_more_13, ↓eX12_more_14, ↓eX12_more_16, ↓eX12_more_17, ↓eX12_more_18, ↓eX12_more_19, ↓eX12_more_20, ↓eX12_more_21, h.1, h1, h2, h3, nl_i, nl_r, nl_j, nj_i, nj_l, cs_0, cs_1, cs_2, cs_3, cs_4, true_and, and_true, Int.reduceLE, Int.reduceLT, Int.reduceToNat, Int.reduceAdd, Int.reduceSub, Int.reduceMul, Int.reduceNeg, Int.reduceEq, reduceIte, and_self, wr_id, wl_id, Int.cast_ofNat_Int]
theorem pi_521 {d : Nat} {M : mM} {Q : mV → mM → Prop} (h : OKm M) (h1 : gr M 35 9 = some 42) (h2 : kd M 42 = 15) (h3 : ln M 42 = 14) : WP (mc (d + 2)) tX12_init 521 [vr (some 35)] [] M Q = WP (mc (d + 2)) tX12_init 539 [vr (some 35)] [] (si M 42 3 423) Q := by
  simp only [↓eX12_init_521, ↓eX12_init_522, ↓eX12_init_525, ↓eX12_init_526, ↓eX12_init_528, ↓eX12_init_530, ↓eX12_init_531, ↓eX12_init_532, ↓eX12_init_533, ↓eX12_init_534, ↓eX12_init_535, ↓eX12_init_538, ↓cpX12_word, ↓cpX12_more, ↓eX12_word_0, ↓eX12_word_1, ↓eX12_word_2, ↓eX12_word_5, ↓eX12_word_6, ↓eX12_word_9, ↓eX12_word_10, ↓eX12_word_13, ↓eX12_word_14, ↓eX12_word_17, ↓eX12_word_19, ↓eX12_word_22, ↓eX12_word_24, ↓eX12_word_27, ↓eX12_word_29, ↓eX12_word_32, ↓eX12_more_0, ↓eX12_more_1, ↓eX12_more_4, ↓eX12_more_5, ↓eX12_more_8, ↓eX12_more_11, ↓eX12_more_12, ↓eX12_more_13, ↓eX12_more_14, ↓eX12_more_16, ↓eX12_more_17, ↓eX12_more_18, ↓eX12_more_19, ↓eX12_more_20, ↓eX12_more_21, h.1, h1, h2, h3, nl_i, nl_r, nl_j, nj_i, nj_l, cs_0, cs_1, cs_2, cs_3, cs_4, true_and, and_true, Int.reduceLE, Int.reduceLT, Int.reduceToNat, Int.reduceAdd, Int.reduceSub, Int.reduceMul, Int.reduceNeg, Int.reduceEq, reduceIte, and_self, wr_id, wl_id, Int.cast_ofNat_Int]
theorem pi_539 {d : Nat} {M : mM} {Q : mV → mM → Prop} (h : OKm M) (h1 : gr M 35 9 = some 42) (h2 : kd M 42 = 15) (h3 : ln M 42 = 14) : WP (mc (d + 2)) tX12_init 539 [vr (some 35)] [] M Q = WP (mc (d + 2)) tX12_init 558 [vr (some 35)] [] (si M 42 4 1111) Q := by
  simp only [↓eX12_init_539, ↓eX12_init_540, ↓eX12_init_543, ↓eX12_init_544, ↓eX12_init_546, ↓eX12_init_548, ↓eX12_init_550, ↓eX12_init_551, ↓eX12_init_552, ↓eX12_init_553, ↓eX12_init_554, ↓eX12_init_557, ↓cpX12_word, ↓cpX12_more, ↓eX12_word_0, ↓eX12_word_1, ↓eX12_word_2, ↓eX12_word_5, ↓eX12_word_6, ↓eX12_word_9, ↓eX12_word_10, ↓eX12_word_13, ↓eX12_word_14, ↓eX12_word_17, ↓eX12_word_19, ↓eX12_word_22, ↓eX12_word_24, ↓eX12_word_27, ↓eX12_word_29, ↓eX12_word_32, ↓eX12_more_0, ↓eX12_more_1, ↓eX12_more_4, ↓eX12_more_5, ↓eX12_more_8, ↓eX12_more_11, ↓eX12_more_12, ↓eX12_more_13, ↓eX12_more_14, ↓eX12_more_16, ↓eX12_more_17, ↓eX12_more_18, ↓eX12_more_19, ↓eX12_more_20, ↓eX12_more_21, h.1, h1, h2, h3, nl_i, nl_r, nl_j, nj_i, nj_l, cs_0, cs_1, cs_2, cs_3, cs_4, true_and, and_true, Int.reduceLE, Int.reduceLT, Int.reduceToNat, Int.reduceAdd, Int.reduceSub, Int.reduceMul, Int.reduceNeg, Int.reduceEq, reduceIte, and_self, wr_id, wl_id, Int.cast_ofNat_Int]
theorem pi_558 {d : Nat} {M : mM} {Q : mV → mM → Prop} (h : OKm M) (h1 : gr M 35 9 = some 42) (h2 : kd M 42 = 15) (h3 : ln M 42 = 14) : WP (mc (d + 2)) tX12_init 558 [vr (some 35)] [] M Q = WP (mc (d + 2)) tX12_init 578 [vr (some 35)] [] (si M 42 5 243356) Q := by
  simp only [↓eX12_init_558, ↓eX12_init_559, ↓eX12_init_562, ↓eX12_init_563, ↓eX12_init_565, ↓eX12_init_567, ↓eX12_init_569, ↓eX12_init_571, ↓eX12_init_572, ↓eX12_init_573, ↓eX12_init_574, ↓eX12_init_577, ↓cpX12_word, ↓cpX12_more, ↓eX12_word_0, ↓eX12_word_1, ↓eX12_word_2, ↓eX12_word_5, ↓eX12_word_6, ↓eX12_word_9, ↓eX12_word_10, ↓eX12_word_13, ↓eX12_word_14, ↓eX12_word_17, ↓eX12_word_19, ↓eX12_word_22, ↓eX12_word_24, ↓eX12_word_27, ↓eX12_word_29, ↓eX12_word_32, ↓eX12_more_0, ↓eX12_more_1, ↓eX12_more_4, ↓eX12_more_5, ↓eX12_more_8, ↓eX12_more_11, ↓eX12_more_12, ↓eX12_more_13, ↓eX12_more_14, ↓eX12_more_16, ↓eX12_more_17, ↓eX12_more_18, ↓eX12_more_19, ↓eX12_more_20, ↓eX12_more_21, h.1, h1, h2, h3, nl_i, nl_r, nl_j, nj_i, nj_l, cs_0, cs_1, cs_2, cs_3, cs_4, true_and, and_true, Int.reduceLE, Int.reduceLT, Int.reduceToNat, Int.reduceAdd, Int.reduceSub, Int.reduceMul, Int.reduceNeg, Int.reduceEq, reduceIte, and_self, wr_id, wl_id, Int.cast_ofNat_Int]
theorem pi_578 {d : Nat} {M : mM} {Q : mV → mM → Prop} (h : OKm M) (h1 : gr M 35 9 = some 42) (h2 : kd M 42 = 15) (h3 : ln M 42 = 14) : WP (mc (d + 2)) tX12_init 578 [vr (some 35)] [] M Q = WP (mc (d + 2)) tX12_init 600 [vr (some 35)] [] (si M 42 6 3379448) Q := by
  simp only [↓eX12_init_578, ↓eX12_init_579, ↓eX12_init_582, ↓eX12_init_584, ↓eX12_init_586, ↓eX12_init_588, ↓eX12_init_590, ↓eX12_init_592, ↓eX12_init_594, ↓eX12_init_595, ↓eX12_init_596, ↓eX12_init_599, ↓cpX12_word, ↓cpX12_more, ↓eX12_word_0, ↓eX12_word_1, ↓eX12_word_2, ↓eX12_word_5, ↓eX12_word_6, ↓eX12_word_9, ↓eX12_word_10, ↓eX12_word_13, ↓eX12_word_14, ↓eX12_word_17, ↓eX12_word_19, ↓eX12_word_22, ↓eX12_word_24, ↓eX12_word_27, ↓eX12_word_29, ↓eX12_word_32, ↓eX12_more_0, ↓eX12_more_1, ↓eX12_more_4, ↓eX12_more_5, ↓eX12_more_8, ↓eX12_more_11, ↓eX12_more_12, ↓eX12_more_13, ↓eX12_more_14, ↓eX12_more_16, ↓eX12_more_17, ↓eX12_more_18, ↓eX12_more_19, ↓eX12_more_20, ↓eX12_more_21, h.1, h1, h2, h3, nl_i, nl_r, nl_j, nj_i, nj_l, cs_0, cs_1, cs_2, cs_3, cs_4, true_and, and_true, Int.reduceLE, Int.reduceLT, Int.reduceToNat, Int.reduceAdd, Int.reduceSub, Int.reduceMul, Int.reduceNeg, Int.reduceEq, reduceIte, and_self, wr_id, wl_id, Int.cast_ofNat_Int]
theorem pi_600 {d : Nat} {M : mM} {Q : mV → mM → Prop} (h : OKm M) (h1 : gr M 35 9 = some 42) (h2 : kd M 42 = 15) (h3 : ln M 42 = 14) : WP (mc (d + 2)) tX12_init 600 [vr (some 35)] [] M Q = WP (mc (d + 2)) tX12_init 622 [vr (some 35)] [] (si M 42 7 10820876) Q := by
  simp only [↓eX12_init_600, ↓eX12_init_601, ↓eX12_init_604, ↓eX12_init_606, ↓eX12_init_608, ↓eX12_init_610, ↓eX12_init_612, ↓eX12_init_614, ↓eX12_init_616, ↓eX12_init_617, ↓eX12_init_618, ↓eX12_init_621, ↓cpX12_word, ↓cpX12_more, ↓eX12_word_0, ↓eX12_word_1, ↓eX12_word_2, ↓eX12_word_5, ↓eX12_word_6, ↓eX12_word_9, ↓eX12_word_10, ↓eX12_word_13, ↓eX12_word_14, ↓eX12_word_17, ↓eX12_word_19, ↓eX12_word_22, ↓eX12_word_24, ↓eX12_word_27, ↓eX12_word_29, ↓eX12_word_32, ↓eX12_more_0, ↓eX12_more_1, ↓eX12_more_4, ↓eX12_more_5, ↓eX12_more_8, ↓eX12_more_11, ↓eX12_more_12, ↓eX12_more_13, ↓eX12_more_14, ↓eX12_more_16, ↓eX12_more_17, ↓eX12_more_18, ↓eX12_more_19, ↓eX12_more_20, ↓eX12_more_21, h.1, h1, h2, h3, nl_i, nl_r, nl_j, nj_i, nj_l, cs_0, cs_1, cs_2, cs_3, cs_4, true_and, and_true, Int.reduceLE, Int.reduceLT, Int.reduceToNat, Int.reduceAdd, Int.reduceSub, Int.reduceMul, Int.reduceNeg, Int.reduceEq, reduceIte, and_self, wr_id, wl_id, Int.cast_ofNat_Int]
theorem pi_622 {d : Nat} {M : mM} {Q : mV → mM → Prop} (h : OKm M) (h1 : gr M 35 9 = some 42) (h2 : kd M 42 = 15) (h3 : ln M 42 = 14) : WP (mc (d + 2)) tX12_init 622 [vr (some 35)] [] M Q = WP (mc (d + 2)) tX12_init 646 [vr (some 35)] [] (si M 42 8 2171852951) Q := by
  simp only [↓eX12_init_622, ↓eX12_init_623, ↓eX12_init_626, ↓eX12_init_628, ↓eX12_init_630, ↓eX12_init_632, ↓eX12_init_634, ↓eX12_init_636, ↓eX12_init_638, ↓eX12_init_640, ↓eX12_init_642, ↓eX12_init_645, ↓cpX12_word, ↓cpX12_more, ↓eX12_word_0, ↓eX12_word_1, ↓eX12_word_2, ↓eX12_word_5, ↓eX12_word_6, ↓eX12_word_9, ↓eX12_word_10, ↓eX12_word_13, ↓eX12_word_14, ↓eX12_word_17, ↓eX12_word_19, ↓eX12_word_22, ↓eX12_word_24, ↓eX12_word_27, ↓eX12_word_29, ↓eX12_word_32, ↓eX12_more_0, ↓eX12_more_1, ↓eX12_more_4, ↓eX12_more_5, ↓eX12_more_8, ↓eX12_more_11, ↓eX12_more_12, ↓eX12_more_13, ↓eX12_more_14, ↓eX12_more_16, ↓eX12_more_17, ↓eX12_more_18, ↓eX12_more_19, ↓eX12_more_20, ↓eX12_more_21, h.1, h1, h2, h3, nl_i, nl_r, nl_j, nj_i, nj_l, cs_0, cs_1, cs_2, cs_3, cs_4, true_and, and_true, Int.reduceLE, Int.reduceLT, Int.reduceToNat, Int.reduceAdd, Int.reduceSub, Int.reduceMul, Int.reduceNeg, Int.reduceEq, reduceIte, and_self, wr_id, wl_id, Int.cast_ofNat_Int]
theorem pi_646 {d : Nat} {M : mM} {Q : mV → mM → Prop} (h : OKm M) (h1 : gr M 35 9 = some 42) (h2 : kd M 42 = 15) (h3 : ln M 42 = 14) : WP (mc (d + 2)) tX12_init 646 [vr (some 35)] [] M Q = WP (mc (d + 2)) tX12_init 670 [vr (some 35)] [] (si M 42 9 1277870079) Q := by
  simp only [↓eX12_init_646, ↓eX12_init_647, ↓eX12_init_650, ↓eX12_init_652, ↓eX12_init_654, ↓eX12_init_656, ↓eX12_init_658, ↓eX12_init_660, ↓eX12_init_662, ↓eX12_init_664, ↓eX12_init_666, ↓eX12_init_669, ↓cpX12_word, ↓cpX12_more, ↓eX12_word_0, ↓eX12_word_1, ↓eX12_word_2, ↓eX12_word_5, ↓eX12_word_6, ↓eX12_word_9, ↓eX12_word_10, ↓eX12_word_13, ↓eX12_word_14, ↓eX12_word_17, ↓eX12_word_19, ↓eX12_word_22, ↓eX12_word_24, ↓eX12_word_27, ↓eX12_word_29, ↓eX12_word_32, ↓eX12_more_0, ↓eX12_more_1, ↓eX12_more_4, ↓eX12_more_5, ↓eX12_more_8, ↓eX12_more_11, ↓eX12_more_12, ↓eX12_more_13, ↓eX12_more_14, ↓eX12_more_16, ↓eX12_more_17, ↓eX12_more_18, ↓eX12_more_19, ↓eX12_more_20, ↓eX12_more_21, h.1, h1, h2, h3, nl_i, nl_r, nl_j, nj_i, nj_l, cs_0, cs_1, cs_2, cs_3, cs_4, true_and, and_true, Int.reduceLE, Int.reduceLT, Int.reduceToNat, Int.reduceAdd, Int.reduceSub, Int.reduceMul, Int.reduceNeg, Int.reduceEq, reduceIte, and_self, wr_id, wl_id, Int.cast_ofNat_Int]
theorem pi_670 {d : Nat} {M : mM} {Q : mV → mM → Prop} (h : OKm M) (h1 : gr M 35 9 = some 42) (h2 : kd M 42 = 15) (h3 : ln M 42 = 14) : WP (mc (d + 2)) tX12_init 670 [vr (some 35)] [] M Q = WP (mc (d + 2)) tX12_init 691 [vr (some 35)] [] (si M 42 10 131638) Q := by
  simp only [↓eX12_init_670, ↓eX12_init_671, ↓eX12_init_674, ↓eX12_init_676, ↓eX12_init_678, ↓eX12_init_680, ↓eX12_init_682, ↓eX12_init_684, ↓eX12_init_685, ↓eX12_init_686, ↓eX12_init_687, ↓eX12_init_690, ↓cpX12_word, ↓cpX12_more, ↓eX12_word_0, ↓eX12_word_1, ↓eX12_word_2, ↓eX12_word_5, ↓eX12_word_6, ↓eX12_word_9, ↓eX12_word_10, ↓eX12_word_13, ↓eX12_word_14, ↓eX12_word_17, ↓eX12_word_19, ↓eX12_word_22, ↓eX12_word_24, ↓eX12_word_27, ↓eX12_word_29, ↓eX12_word_32, ↓eX12_more_0, ↓eX12_more_1, ↓eX12_more_4, ↓eX12_more_5, ↓eX12_more_8, ↓eX12_more_11, ↓eX12_more_12, ↓eX12_more_13, ↓eX12_more_14, ↓eX12_more_16, ↓eX12_more_17, ↓eX12_more_18, ↓eX12_more_19, ↓eX12_more_20, ↓eX12_more_21, h.1, h1, h2, h3, nl_i, nl_r, nl_j, nj_i, nj_l, cs_0, cs_1, cs_2, cs_3, cs_4, true_and, and_true, Int.reduceLE, Int.reduceLT, Int.reduceToNat, Int.reduceAdd, Int.reduceSub, Int.reduceMul, Int.reduceNeg, Int.reduceEq, reduceIte, and_self, wr_id, wl_id, Int.cast_ofNat_Int]
theorem pi_691 {d : Nat} {M : mM} {Q : mV → mM → Prop} (h : OKm M) (h1 : gr M 35 9 = some 42) (h2 : kd M 42 = 15) (h3 : ln M 42 = 14) : WP (mc (d + 2)) tX12_init 691 [vr (some 35)] [] M Q = WP (mc (d + 2)) tX12_init 713 [vr (some 35)] [] (si M 42 11 11450658) Q := by
  simp only [↓eX12_init_691, ↓eX12_init_692, ↓eX12_init_695, ↓eX12_init_697, ↓eX12_init_699, ↓eX12_init_701, ↓eX12_init_703, ↓eX12_init_705, ↓eX12_init_707, ↓eX12_init_708, ↓eX12_init_709, ↓eX12_init_712, ↓cpX12_word, ↓cpX12_more, ↓eX12_word_0, ↓eX12_word_1, ↓eX12_word_2, ↓eX12_word_5, ↓eX12_word_6, ↓eX12_word_9, ↓eX12_word_10, ↓eX12_word_13, ↓eX12_word_14, ↓eX12_word_17, ↓eX12_word_19, ↓eX12_word_22, ↓eX12_word_24, ↓eX12_word_27, ↓eX12_word_29, ↓eX12_word_32, ↓eX12_more_0, ↓eX12_more_1, ↓eX12_more_4, ↓eX12_more_5, ↓eX12_more_8, ↓eX12_more_11, ↓eX12_more_12, ↓eX12_more_13, ↓eX12_more_14, ↓eX12_more_16, ↓eX12_more_17, ↓eX12_more_18, ↓eX12_more_19, ↓eX12_more_20, ↓eX12_more_21, h.1, h1, h2, h3, nl_i, nl_r, nl_j, nj_i, nj_l, cs_0, cs_1, cs_2, cs_3, cs_4, true_and, and_true, Int.reduceLE, Int.reduceLT, Int.reduceToNat, Int.reduceAdd, Int.reduceSub, Int.reduceMul, Int.reduceNeg, Int.reduceEq, reduceIte, and_self, wr_id, wl_id, Int.cast_ofNat_Int]
theorem pi_713 {d : Nat} {M : mM} {Q : mV → mM → Prop} (h : OKm M) (h1 : gr M 35 9 = some 42) (h2 : kd M 42 = 15) (h3 : ln M 42 = 14) : WP (mc (d + 2)) tX12_init 713 [vr (some 35)] [] M Q = WP (mc (d + 2)) tX12_init 736 [vr (some 35)] [] (si M 42 12 175125302) Q := by
  simp only [↓eX12_init_713, ↓eX12_init_714, ↓eX12_init_717, ↓eX12_init_719, ↓eX12_init_721, ↓eX12_init_723, ↓eX12_init_725, ↓eX12_init_727, ↓eX12_init_729, ↓eX12_init_731, ↓eX12_init_732, ↓eX12_init_735, ↓cpX12_word, ↓cpX12_more, ↓eX12_word_0, ↓eX12_word_1, ↓eX12_word_2, ↓eX12_word_5, ↓eX12_word_6, ↓eX12_word_9, ↓eX12_word_10, ↓eX12_word_13, ↓eX12_word_14, ↓eX12_word_17, ↓eX12_word_19, ↓eX12_word_22, ↓eX12_word_24, ↓eX12_word_27, ↓eX12_word_29, ↓eX12_word_32, ↓eX12_more_0, ↓eX12_more_1, ↓eX12_more_4, ↓eX12_more_5, ↓eX12_more_8, ↓eX12_more_11, ↓eX12_more_12, ↓eX12_more_13, ↓eX12_more_14, ↓eX12_more_16, ↓eX12_more_17, ↓eX12_more_18, ↓eX12_more_19, ↓eX12_more_20, ↓eX12_more_21, h.1, h1, h2, h3, nl_i, nl_r, nl_j, nj_i, nj_l, cs_0, cs_1, cs_2, cs_3, cs_4, true_and, and_true, Int.reduceLE, Int.reduceLT, Int.reduceToNat, Int.reduceAdd, Int.reduceSub, Int.reduceMul, Int.reduceNeg, Int.reduceEq, reduceIte, and_self, wr_id, wl_id, Int.cast_ofNat_Int]
theorem pi_736 {d : Nat} {M : mM} {Q : mV → mM → Prop} (h : OKm M) (h1 : gr M 35 9 = some 42) (h2 : kd M 42 = 15) (h3 : ln M 42 = 14) : WP (mc (d + 2)) tX12_init 736 [vr (some 35)] [] M Q = WP (mc (d + 2)) tX12_init 758 [vr (some 35)] [] (si M 42 13 10998956) Q := by
  simp only [↓eX12_init_736, ↓eX12_init_737, ↓eX12_init_740, ↓eX12_init_742, ↓eX12_init_744, ↓eX12_init_746, ↓eX12_init_748, ↓eX12_init_750, ↓eX12_init_752, ↓eX12_init_753, ↓eX12_init_754, ↓eX12_init_757, ↓cpX12_word, ↓cpX12_more, ↓eX12_word_0, ↓eX12_word_1, ↓eX12_word_2, ↓eX12_word_5, ↓eX12_word_6, ↓eX12_word_9, ↓eX12_word_10, ↓eX12_word_13, ↓eX12_word_14, ↓eX12_word_17, ↓eX12_word_19, ↓eX12_word_22, ↓eX12_word_24, ↓eX12_word_27, ↓eX12_word_29, ↓eX12_word_32, ↓eX12_more_0, ↓eX12_more_1, ↓eX12_more_4, ↓eX12_more_5, ↓eX12_more_8, ↓eX12_more_11, ↓eX12_more_12, ↓eX12_more_13, ↓eX12_more_14, ↓eX12_more_16, ↓eX12_more_17, ↓eX12_more_18, ↓eX12_more_19, ↓eX12_more_20, ↓eX12_more_21, h.1, h1, h2, h3, nl_i, nl_r, nl_j, nj_i, nj_l, cs_0, cs_1, cs_2, cs_3, cs_4, true_and, and_true, Int.reduceLE, Int.reduceLT, Int.reduceToNat, Int.reduceAdd, Int.reduceSub, Int.reduceMul, Int.reduceNeg, Int.reduceEq, reduceIte, and_self, wr_id, wl_id, Int.cast_ofNat_Int]
theorem pi_758 {C : mC} {M : mM} {Q : mV → mM → Prop} (h : OKm M) : WP C tX12_init 758 [vr (some 35)] [] M Q = WP C tX12_init 763 [vr (some 35)] [] (si M 35 34 1) Q := by
  simp only [↓eX12_init_758, ↓eX12_init_759, ↓eX12_init_760, h.1, nl_i, nl_r, true_and]
theorem pi_763 {C : mC} {M : mM} {Q : mV → mM → Prop} (h : OKm M) : WP C tX12_init 763 [vr (some 35)] [] M Q = WP C tX12_init 768 [vr (some 35)] [] (si M 35 46 1) Q := by
  simp only [↓eX12_init_763, ↓eX12_init_764, ↓eX12_init_765, h.1, nl_i, nl_r, true_and]
theorem pi_768 {C : mC} {M : mM} {Q : mV → mM → Prop} (h : OKm M) : WP C tX12_init 768 [vr (some 35)] [] M Q = WP C tX12_init 775 [vr (some 35)] [] (si M 35 49 2000) Q := by
  simp only [↓eX12_init_768, ↓eX12_init_769, ↓eX12_init_772, h.1, nl_i, nl_r, true_and]
def mA2 (M : mM) : mM := (nA (nA (nA (nA (nA (nA (nA (nA (nA (nA (nA (nA (nA (nA (nA (nA (si (nA (nA (nA (nA (nA (nA (nA (nA (si (nA (nA (nA (nA (nA (nA (nA (nA (nA (nA (nA (nA (nA (nA (nA (nA (nA (nA (nA (nA (nA (si (nA (nA (nA (nA (nA (nA (nA M 13 2000 1) 13 2000 3) 14 403 5) 14 403 6) 14 403 7) 15 403 8) 15 14 9) 35 17 (-1)) 14 2 20) 14 40 21) 14 42 22) 14 2 23) 14 800 24) 14 800 25) 14 800 26) 14 800 27) 16 800 28) 14 1000 30) 14 1000 31) 14 48 32) 14 6 36) 16 300 38) 14 300 39) 14 300 40) 14 300 41) 14 300 42) 14 300 43) 14 300 44) 16 300 45) 35 51 (-1)) 14 288 52) 14 1728 53) 14 288 54) 14 1728 56) 14 1728 57) 14 1728 58) 14 1728 59) 14 500 60) 35 61 (-1)) 14 14 65) 14 14 66) 14 14 67) 14 14 68) 14 14 69) 14 14 70) 14 14 71) 14 14 72) 16 14 73) 16 14 74) 14 14 75) 14 14 76) 14 14 78) 14 14 79) 14 14 80) 14 14 81)
def mM2 (M : mM) : mM := (si (si (si (si (si (si (si (si (si (si (si (si (si (si (si (si (si (mA2 M) 42 0 459791) 42 1 249) 42 2 7554780) 42 3 423) 42 4 1111) 42 5 243356) 42 6 3379448) 42 7 10820876) 42 8 2171852951) 42 9 1277870079) 42 10 131638) 42 11 11450658) 42 12 175125302) 42 13 10998956) 35 34 1) 35 46 1) 35 49 2000)
theorem init_M {d : Nat} {M : mM} {Q : mV → mM → Prop} (h : OKm M) (hn : nx M = 36) : CP (mc (d + 3)) 122 [vr (some 35)] M Q = Q vj (mM2 M) := by
  simp only [↓cpX12_init, ↓eX12_init_0, ↓eX12_init_1, cs_0, true_and]
  rw [pi_4 h]
  have h0 := OK_nA (k := 13) (n := 2000) (f := 1) h
  rw [pi_13 h0]
  have h1 := OK_nA (k := 13) (n := 2000) (f := 3) h0
  rw [pi_22 h1]
  have h2 := OK_nA (k := 14) (n := 403) (f := 5) h1
  rw [pi_31 h2]
  have h3 := OK_nA (k := 14) (n := 403) (f := 6) h2
  rw [pi_40 h3]
  have h4 := OK_nA (k := 14) (n := 403) (f := 7) h3
  rw [pi_49 h4]
  have h5 := OK_nA (k := 15) (n := 403) (f := 8) h4
  rw [pi_58 h5]
  have h6 := OK_nA (k := 15) (n := 14) (f := 9) h5
  rw [pi_66 h6]
  have h7 := OK_si (f := 17) (z := (-1)) h6
  rw [pi_71 h7]
  have h8 := OK_nA (k := 14) (n := 2) (f := 20) h7
  rw [pi_78 h8]
  have h9 := OK_nA (k := 14) (n := 40) (f := 21) h8
  rw [pi_86 h9]
  have h10 := OK_nA (k := 14) (n := 42) (f := 22) h9
  rw [pi_94 h10]
  have h11 := OK_nA (k := 14) (n := 2) (f := 23) h10
  rw [pi_101 h11]
  have h12 := OK_nA (k := 14) (n := 800) (f := 24) h11
  rw [pi_110 h12]
  have h13 := OK_nA (k := 14) (n := 800) (f := 25) h12
  rw [pi_119 h13]
  have h14 := OK_nA (k := 14) (n := 800) (f := 26) h13
  rw [pi_128 h14]
  have h15 := OK_nA (k := 14) (n := 800) (f := 27) h14
  rw [pi_137 h15]
  have h16 := OK_nA (k := 16) (n := 800) (f := 28) h15
  rw [pi_146 h16]
  have h17 := OK_nA (k := 14) (n := 1000) (f := 30) h16
  rw [pi_155 h17]
  have h18 := OK_nA (k := 14) (n := 1000) (f := 31) h17
  rw [pi_164 h18]
  have h19 := OK_nA (k := 14) (n := 48) (f := 32) h18
  rw [pi_172 h19]
  have h20 := OK_nA (k := 14) (n := 6) (f := 36) h19
  rw [pi_180 h20]
  have h21 := OK_nA (k := 16) (n := 300) (f := 38) h20
  rw [pi_189 h21]
  have h22 := OK_nA (k := 14) (n := 300) (f := 39) h21
  rw [pi_198 h22]
  have h23 := OK_nA (k := 14) (n := 300) (f := 40) h22
  rw [pi_207 h23]
  have h24 := OK_nA (k := 14) (n := 300) (f := 41) h23
  rw [pi_216 h24]
  have h25 := OK_nA (k := 14) (n := 300) (f := 42) h24
  rw [pi_225 h25]
  have h26 := OK_nA (k := 14) (n := 300) (f := 43) h25
  rw [pi_234 h26]
  have h27 := OK_nA (k := 14) (n := 300) (f := 44) h26
  rw [pi_243 h27]
  have h28 := OK_nA (k := 16) (n := 300) (f := 45) h27
  rw [pi_252 h28]
  have h29 := OK_si (f := 51) (z := (-1)) h28
  rw [pi_257 h29]
  have h30 := OK_nA (k := 14) (n := 288) (f := 52) h29
  rw [pi_266 h30]
  have h31 := OK_nA (k := 14) (n := 1728) (f := 53) h30
  rw [pi_275 h31]
  have h32 := OK_nA (k := 14) (n := 288) (f := 54) h31
  rw [pi_284 h32]
  have h33 := OK_nA (k := 14) (n := 1728) (f := 56) h32
  rw [pi_293 h33]
  have h34 := OK_nA (k := 14) (n := 1728) (f := 57) h33
  rw [pi_302 h34]
  have h35 := OK_nA (k := 14) (n := 1728) (f := 58) h34
  rw [pi_311 h35]
  have h36 := OK_nA (k := 14) (n := 1728) (f := 59) h35
  rw [pi_320 h36]
  have h37 := OK_nA (k := 14) (n := 500) (f := 60) h36
  rw [pi_329 h37]
  have h38 := OK_si (f := 61) (z := (-1)) h37
  rw [pi_334 h38]
  have h39 := OK_nA (k := 14) (n := 14) (f := 65) h38
  rw [pi_342 h39]
  have h40 := OK_nA (k := 14) (n := 14) (f := 66) h39
  rw [pi_350 h40]
  have h41 := OK_nA (k := 14) (n := 14) (f := 67) h40
  rw [pi_358 h41]
  have h42 := OK_nA (k := 14) (n := 14) (f := 68) h41
  rw [pi_366 h42]
  have h43 := OK_nA (k := 14) (n := 14) (f := 69) h42
  rw [pi_374 h43]
  have h44 := OK_nA (k := 14) (n := 14) (f := 70) h43
  rw [pi_382 h44]
  have h45 := OK_nA (k := 14) (n := 14) (f := 71) h44
  rw [pi_390 h45]
  have h46 := OK_nA (k := 14) (n := 14) (f := 72) h45
  rw [pi_398 h46]
  have h47 := OK_nA (k := 16) (n := 14) (f := 73) h46
  rw [pi_406 h47]
  have h48 := OK_nA (k := 16) (n := 14) (f := 74) h47
  rw [pi_414 h48]
  have h49 := OK_nA (k := 14) (n := 14) (f := 75) h48
  rw [pi_422 h49]
  have h50 := OK_nA (k := 14) (n := 14) (f := 76) h49
  rw [pi_430 h50]
  have h51 := OK_nA (k := 14) (n := 14) (f := 78) h50
  rw [pi_438 h51]
  have h52 := OK_nA (k := 14) (n := 14) (f := 79) h51
  rw [pi_446 h52]
  have h53 := OK_nA (k := 14) (n := 14) (f := 80) h52
  rw [pi_454 h53]
  have h54 := OK_nA (k := 14) (n := 14) (f := 81) h53
  have e0 : (nA (nA (nA (nA (nA (nA (nA (nA (nA (nA (nA (nA (nA (nA (nA (nA (si (nA (nA (nA (nA (nA (nA (nA (nA (si (nA (nA (nA (nA (nA (nA (nA (nA (nA (nA (nA (nA (nA (nA (nA (nA (nA (nA (nA (nA (nA (si (nA (nA (nA (nA (nA (nA (nA M 13 2000 1) 13 2000 3) 14 403 5) 14 403 6) 14 403 7) 15 403 8) 15 14 9) 35 17 (-1)) 14 2 20) 14 40 21) 14 42 22) 14 2 23) 14 800 24) 14 800 25) 14 800 26) 14 800 27) 16 800 28) 14 1000 30) 14 1000 31) 14 48 32) 14 6 36) 16 300 38) 14 300 39) 14 300 40) 14 300 41) 14 300 42) 14 300 43) 14 300 44) 16 300 45) 35 51 (-1)) 14 288 52) 14 1728 53) 14 288 54) 14 1728 56) 14 1728 57) 14 1728 58) 14 1728 59) 14 500 60) 35 61 (-1)) 14 14 65) 14 14 66) 14 14 67) 14 14 68) 14 14 69) 14 14 70) 14 14 71) 14 14 72) 16 14 73) 16 14 74) 14 14 75) 14 14 76) 14 14 78) 14 14 79) 14 14 80) 14 14 81) = mA2 M := rfl
  rw [e0] at h54 ⊢
  have k1 : gr (mA2 M) 35 9 = some 42 := by
    simp only [mA2, gr_si, gr_nA, nx_nA, nx_si, hn, Nat.reduceAdd, Nat.reduceEqDiff, Nat.reduceLT, reduceIte]
  have k2 : kd (mA2 M) 42 = 15 := by
    simp only [mA2, kd_si, kd_nA, nx_nA, nx_si, hn, Nat.reduceAdd, Nat.reduceEqDiff, reduceIte]
  have k3 : ln (mA2 M) 42 = 14 := by
    simp only [mA2, ln_si, ln_nA, nx_nA, nx_si, hn, Nat.reduceAdd, Nat.reduceEqDiff, reduceIte]
  rw [pi_462, pi_482, pi_500, pi_521, pi_539, pi_558, pi_578, pi_600, pi_622, pi_646, pi_670, pi_691, pi_713, pi_736, pi_758, pi_763, pi_768, eX12_init_775]
  · rfl
  all_goals first | exact h54 | exact k1 | exact k2 | exact k3
theorem OK_M1 : OKm (al mM1 12 0 82) ∧ nx (al mM1 12 0 82) = 36 := ⟨⟨by decide +kernel, by decide +kernel⟩, by decide +kernel⟩
def mS0 : mM := mM2 (al mM1 12 0 82)
theorem SH_0 : SH mS0 := ⟨by decide +kernel, by decide +kernel, by decide +kernel, by decide +kernel⟩
theorem nx_0 : nx mS0 = 88 ∧ zs mS0 < 40000 := by decide +kernel
