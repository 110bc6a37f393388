/-! ===== reading the memory ===== -/
theorem gi_same (M : mM) (a i : Nat) (z : Int) : gi (si M a i z) a i = z := by rw [gi_si, if_pos ⟨rfl, rfl⟩]
theorem gi_na {M : mM} {a i b j : Nat} {z : Int} (h : b ≠ a) : gi (si M a i z) b j = gi M b j := by rw [gi_si, if_neg (fun q => h q.1)]
theorem gi_ni {M : mM} {a i j : Nat} {z : Int} (h : j ≠ i) : gi (si M a i z) a j = gi M a j := by rw [gi_si, if_neg (fun q => h q.2)]
theorem gr_same (M : mM) (a i : Nat) (z : Option Nat) : gr (sr M a i z) a i = z := by rw [gr_sr, if_pos ⟨rfl, rfl⟩]
theorem gr_na {M : mM} {a i b j : Nat} {z : Option Nat} (h : b ≠ a) : gr (sr M a i z) b j = gr M b j := by rw [gr_sr, if_neg (fun q => h q.1)]
theorem gr_ni {M : mM} {a i j : Nat} {z : Option Nat} (h : j ≠ i) : gr (sr M a i z) a j = gr M a j := by rw [gr_sr, if_neg (fun q => h q.2)]
theorem gi_sws (M : mM) (a : Nat) (f : Nat → Int) (j : Nat) : gi (sw M a f) a j = f j := by rw [gi_sw, if_pos rfl]
theorem gi_swn {M : mM} {a b : Nat} {f : Nat → Int} {j : Nat} (h : b ≠ a) : gi (sw M a f) b j = gi M b j := by rw [gi_sw, if_neg h]
theorem wr_id {z : Int} (h1 : -2147483648 ≤ z) (h2 : z < 2147483648) : wr z = z := i32 ⟨h1, h2⟩
theorem wl_id {z : Int} (h1 : -9223372036854775808 ≤ z) (h2 : z < 9223372036854775808) : wl z = z := i64 ⟨h1, h2⟩
theorem kd_al2 (M : mM) (n w b : Nat) : kd (al2 M n w) b = if b = nx M then 21 else if nx M ≤ b ∧ b ≤ nx M + n then 14 else kd M b := rfl
theorem ln_al2 (M : mM) (n w b : Nat) : ln (al2 M n w) b = if b = nx M then n else if nx M ≤ b ∧ b ≤ nx M + n then w else ln M b := rfl
theorem gi_al2 (M : mM) (n w b j : Nat) : gi (al2 M n w) b j = if nx M ≤ b ∧ b ≤ nx M + n then 0 else gi M b j := rfl
theorem gr_al2 (M : mM) (n w b j : Nat) : gr (al2 M n w) b j = if b = nx M then (if j < n then some (nx M + 1 + j) else none) else if nx M ≤ b ∧ b ≤ nx M + n then none else gr M b j := rfl
theorem nx_al2 (M : mM) (n w : Nat) : nx (al2 M n w) = nx M + 1 + n := rfl
theorem zs_al2 (M : mM) (n w : Nat) : zs (al2 M n w) = zs M + n + n * w := rfl
def mE : mM := (fun _ _ => 0, fun _ _ => none, fun _ => 99, fun _ => 0, 0, 0)
theorem nx_mE : nx mE = 0 := rfl
theorem zs_mE : zs mE = 0 := rfl
theorem kd_mE (a : Nat) : kd mE a = 99 := rfl
theorem gi_mE (a i : Nat) : gi mE a i = 0 := rfl
theorem gr_mE (a i : Nat) : gr mE a i = none := rfl
theorem ln_mE (a : Nat) : ln mE a = 0 := rfl
