theorem sn_mna_at : mSnd mInf iX1_init 25 (o_mna 29) := sorry
theorem sn_copy_at : mSnd mInf iX1_pushByOver 69 (o_copy 72) := sorry
theorem sn_kow_at : mSnd mInf iX8_kindOfWord 0 o_kow := sorry
theorem sn_lconst0 {F : mF} {I : mI} {pc n : Nat} (hd : decode I.2.1 pc = .ok (.lconst 0, 1)) (hn : pc + 1 = n) : mSnd F I pc (o_const (vl 0) n) := sn_lconst (k := 0) hd hn
