/-! ===== the machine beneath the small one: pictures ===== -/
abbrev mG : Type := Nat × va_G × (Nat → ClassId)
def mFt (c : Nat) : Nat → FieldType := match c with
  | 0 => tyX0
  | 1 => tyX1
  | 2 => tyX2
  | 3 => tyX3
  | 4 => tyX4
  | 5 => tyX5
  | 6 => tyX6
  | 7 => tyX7
  | 8 => tyX8
  | 9 => tyX9
  | 10 => tyX10
  | 11 => tyX11
  | _ => tyX12
def mFn (c : Nat) : Nat := match c with
  | 0 => 18
  | 1 => 7
  | 2 => 7
  | 3 => 6
  | 4 => 6
  | 5 => 13
  | 6 => 10
  | 7 => 2
  | 8 => 6
  | 9 => 10
  | 10 => 6
  | 11 => 9
  | _ => 82
def mIsR (t : FieldType) : Bool := match t with
  | .object _ => true
  | .array _ => true
  | _ => false
def mRf (G : mG) (o : Option Nat) : Option Nat := o.map (fun a => G.1 + a)
def mFv (G : mG) (M : mM) (a i : Nat) : Value := if mIsR (mFt (kd M a) i) = true then va_rf (mRf G (gr M a i)) else .int (Int32.ofInt (gi M a i))
def mFs (G : mG) (M : mM) (a : Nat) : List Value := (List.range (mFn (kd M a))).map (mFv G M a)
def mEn (G : mG) (M : mM) (a : Nat) : va_E :=
  if kd M a < 13 then .inr (kd M a, mFs G M a)
  else if kd M a = 15 then .inl (G.2.2 15, ln M a, .inr (.inl (fun j => Int64.ofInt (gi M a j))))
  else if kd M a < 17 then .inl (G.2.2 (kd M a), ln M a, .inl (fun j => Int32.ofInt (gi M a j)))
  else .inl (G.2.2 (kd M a), ln M a, .inr (.inr (.inr (.inr (fun j => mRf G (gr M a j))))))
def mPl (G : mG) (M : mM) : va_W := (List.range (nx M)).map (fun a => (G.1 + a, mEn G M a))
def mTys (G : mG) : List (ClassId × FieldType) := [(G.2.2 13, .byte), (G.2.2 14, .int), (G.2.2 15, .long), (G.2.2 16, .boolean), (G.2.2 17, .object "GuideDesk$Candidate"), (G.2.2 18, .object "GuideDesk$Fact"), (G.2.2 19, .object "GuideDesk$Showing"), (G.2.2 20, .object "GuideDesk$Source"), (G.2.2 21, .array .int)]
def inR (z : Int) : Prop := -2147483648 ≤ z ∧ z < 2147483648
def inL (z : Int) : Prop := -9223372036854775808 ≤ z ∧ z < 9223372036854775808
def mWf (M : mM) : Prop := (∀ a, nx M ≤ a → kd M a = 99) ∧ (∀ a i, kd M a ≠ 15 → inR (gi M a i)) ∧ (∀ a i, kd M a = 15 → inL (gi M a i)) ∧ ∀ a, ln M a < 2147483648
def tv (G : mG) (v : mV) : Value := match v with
  | none => .null
  | some (.inl z) => .int (Int32.ofInt z)
  | some (.inr (.inl z)) => .long (Int64.ofInt z)
  | some (.inr (.inr o)) => va_rf (mRf G o)
def okV (v : mV) : Prop := match v with
  | none => False
  | some (.inl z) => inR z
  | some (.inr (.inl z)) => inL z
  | some (.inr (.inr _)) => True
def rv (G : mG) (v : mV) : Option Value := match v with
  | none => none
  | some u => some (tv G (some u))
theorem tv_i (G : mG) (z : Int) : tv G (vi z) = .int (Int32.ofInt z) := rfl
theorem tv_l (G : mG) (z : Int) : tv G (vl z) = .long (Int64.ofInt z) := rfl
theorem tv_r (G : mG) (o : Option Nat) : tv G (vr o) = va_rf (mRf G o) := rfl
theorem tv_rs (G : mG) (a : Nat) : tv G (vr (some a)) = .ref (G.1 + a) := rfl
theorem ok_i {z : Int} : okV (vi z) ↔ inR z := Iff.rfl
theorem ok_l {z : Int} : okV (vl z) ↔ inL z := Iff.rfl
theorem ok_r {o : Option Nat} : okV (vr o) := trivial
theorem tv_cat (G : mG) (v : mV) : (tv G v).category = mCat v := by
  rcases v with _ | z | z | _ | a <;> rfl
theorem tv_cats (G : mG) (st : List mV) : ((st.map (tv G)).map fun v => v.category).sum = (st.map mCat).sum := by
  rw [List.map_map]
  congr 1
  apply List.map_congr_left
  intro v _
  exact tv_cat G v
theorem i32 {z : Int} (h : inR z) : (Int32.ofInt z).toInt = z := Int32.toInt_ofInt_of_le h.1 h.2
theorem i64 {z : Int} (h : inL z) : (Int64.ofInt z).toInt = z := Int64.toInt_ofInt_of_le h.1 h.2
theorem inR_toInt (x : Int32) : inR x.toInt := ⟨x.le_toInt, x.toInt_lt⟩
theorem inL_toInt (x : Int64) : inL x.toInt := ⟨x.le_toInt, x.toInt_lt⟩
theorem inR_wr (z : Int) : inR (wr z) := inR_toInt _
theorem inR_wb (z : Int) : inR (wb z) := by
  have h1 := (Int8.ofInt z).le_toInt
  have h2 := (Int8.ofInt z).toInt_lt
  unfold inR wb
  omega
theorem o32 (x : Int32) : Int32.ofInt x.toInt = x := Int32.ofInt_toInt x
theorem i32_lt {a b : Int} (ha : inR a) (hb : inR b) : Int32.ofInt a < Int32.ofInt b ↔ a < b := by rw [Int32.lt_iff_toInt_lt, i32 ha, i32 hb]
theorem i32_le {a b : Int} (ha : inR a) (hb : inR b) : Int32.ofInt a ≤ Int32.ofInt b ↔ a ≤ b := by rw [Int32.le_iff_toInt_le, i32 ha, i32 hb]
theorem i32_eq {a b : Int} (ha : inR a) (hb : inR b) : Int32.ofInt a = Int32.ofInt b ↔ a = b := by rw [← Int32.toInt_inj, i32 ha, i32 hb]
theorem i32_z : (0 : Int32) = Int32.ofInt 0 := by decide
theorem inR_0 : inR 0 := ⟨by decide, by decide⟩
theorem i32_nat {z : Int} (h : inR z) : (Int32.ofInt z).toNatClampNeg = z.toNat := Int32.toNatClampNeg_ofInt_of_le h.1 h.2
theorem i32_in {z : Int} {n : Nat} (h : inR z) (h0 : 0 ≤ z) (hn : z < n) : vp_in (Int32.ofInt z) n := by
  rw [vp_in_iff, i32 h]
  exact ⟨h0, hn⟩
/-! the pool -/
theorem mPl_get {G : mG} {M : mM} {a : Nat} (h : a < nx M) : (mPl G M)[a]? = some (G.1 + a, mEn G M a) := by
  unfold mPl
  rw [List.getElem?_map, List.getElem?_range h]
  rfl
theorem mPl_inv {G : mG} {M : mM} {k : Nat} {q : Nat × va_E} (h : (mPl G M)[k]? = some q) : k < nx M ∧ q = (G.1 + k, mEn G M k) := by
  have hk : k < nx M := by
    have := (List.getElem?_eq_some_iff.mp h).1
    simpa [mPl] using this
  rw [mPl_get hk] at h
  exact ⟨hk, (Option.some.inj h).symm⟩
theorem mPl_D (G : mG) (M : mM) : va_D (fun q => G.1 ≤ q) (mPl G M) := by
  refine ⟨fun i j p q hi hj e => ?_, fun k q hk => ?_⟩
  · obtain ⟨-, rfl⟩ := mPl_inv hi
    obtain ⟨-, rfl⟩ := mPl_inv hj
    have e2 : G.1 + i = G.1 + j := e
    omega
  · obtain ⟨-, rfl⟩ := mPl_inv hk
    exact Nat.le_add_right _ _
/-- a changed cell -/
theorem mPl_put {G : mG} {M M' : mM} {a : Nat} {H H' : Heap} (hP : va_P G.2.1 vwCl (mPl G M) H) (hn : nx M' = nx M) (he : ∀ b, b ≠ a → mEn G M' b = mEn G M b) (ha : va_at G.2.1 vwCl (G.1 + a, mEn G M' a) H') (ho : ∀ q : Nat, q ≠ G.1 + a → H'[q]? = H[q]?) : va_P G.2.1 vwCl (mPl G M') H' := by
  intro k q hk
  obtain ⟨hl, rfl⟩ := mPl_inv hk
  by_cases hka : k = a
  · subst hka
    exact ha
  · rw [he k hka]
    exact (hP k _ (mPl_get (by rw [← hn]; exact hl))).kept (ho _ (fun e => hka (by have e2 : G.1 + k = G.1 + a := e; omega)))
/-- a new cell -/
theorem mPl_new {G : mG} {M M' : mM} {H H' : Heap} (hP : va_P G.2.1 vwCl (mPl G M) H) (hz : H.size = G.1 + nx M) (hn : nx M' = nx M + 1) (he : ∀ b, b < nx M → mEn G M' b = mEn G M b) (ha : va_at G.2.1 vwCl (G.1 + nx M, mEn G M' (nx M)) H') (ho : ∀ q : Nat, q < H.size → H'[q]? = H[q]?) : va_P G.2.1 vwCl (mPl G M') H' := by
  intro k q hk
  obtain ⟨hl, rfl⟩ := mPl_inv hk
  rw [hn] at hl
  by_cases hka : k = nx M
  · subst hka
    exact ha
  · have hk2 : k < nx M := by omega
    rw [he k hk2]
    exact (hP k _ (mPl_get hk2)).kept (ho _ (by show G.1 + k < H.size; omega))
/-! entries by kinds -/
theorem mEn_o {G : mG} {M : mM} {a c : Nat} (h : kd M a = c) (hc : c < 13) : mEn G M a = .inr (c, mFs G M a) := by
  subst h
  unfold mEn
  rw [if_pos hc]
theorem mEn_i {G : mG} {M : mM} {a k : Nat} (h : kd M a = k) (hk : k = 13 ∨ k = 14 ∨ k = 16) : mEn G M a = .inl (G.2.2 k, ln M a, .inl (fun j => Int32.ofInt (gi M a j))) := by
  subst h
  unfold mEn
  rw [if_neg (by omega), if_neg (by omega), if_pos (by omega)]
theorem mEn_l {G : mG} {M : mM} {a : Nat} (h : kd M a = 15) : mEn G M a = .inl (G.2.2 15, ln M a, .inr (.inl (fun j => Int64.ofInt (gi M a j)))) := by
  unfold mEn
  rw [h, if_neg (by omega), if_pos rfl]
theorem mEn_r {G : mG} {M : mM} {a k : Nat} (h : kd M a = k) (hk : 17 ≤ k) : mEn G M a = .inl (G.2.2 k, ln M a, .inr (.inr (.inr (.inr (fun j => mRf G (gr M a j)))))) := by
  subst h
  unfold mEn
  rw [if_neg (by omega), if_neg (by omega), if_neg (by omega)]
theorem mLt {M : mM} (h : mWf M) {a k : Nat} (hk : kd M a = k) (h9 : k < 99) : a < nx M := by
  rcases Nat.lt_or_ge a (nx M) with q | q
  · exact q
  · have := h.1 a q
    omega
/-! the memory's words -/
theorem gi_si (M : mM) (a i : Nat) (z : Int) (b j : Nat) : gi (si M a i z) b j = if b = a ∧ j = i then z else gi M b j := rfl
theorem gr_si (M : mM) (a i : Nat) (z : Int) (b j : Nat) : gr (si M a i z) b j = gr M b j := rfl
theorem kd_si (M : mM) (a i : Nat) (z : Int) (b : Nat) : kd (si M a i z) b = kd M b := rfl
theorem ln_si (M : mM) (a i : Nat) (z : Int) (b : Nat) : ln (si M a i z) b = ln M b := rfl
theorem nx_si (M : mM) (a i : Nat) (z : Int) : nx (si M a i z) = nx M := rfl
theorem zs_si (M : mM) (a i : Nat) (z : Int) : zs (si M a i z) = zs M := rfl
theorem gi_sr (M : mM) (a i : Nat) (z : Option Nat) (b j : Nat) : gi (sr M a i z) b j = gi M b j := rfl
theorem gr_sr (M : mM) (a i : Nat) (z : Option Nat) (b j : Nat) : gr (sr M a i z) b j = if b = a ∧ j = i then z else gr M b j := rfl
theorem kd_sr (M : mM) (a i : Nat) (z : Option Nat) (b : Nat) : kd (sr M a i z) b = kd M b := rfl
theorem ln_sr (M : mM) (a i : Nat) (z : Option Nat) (b : Nat) : ln (sr M a i z) b = ln M b := rfl
theorem nx_sr (M : mM) (a i : Nat) (z : Option Nat) : nx (sr M a i z) = nx M := rfl
theorem zs_sr (M : mM) (a i : Nat) (z : Option Nat) : zs (sr M a i z) = zs M := rfl
theorem gi_sw (M : mM) (a : Nat) (f : Nat → Int) (b j : Nat) : gi (sw M a f) b j = if b = a then f j else gi M b j := rfl
theorem gr_sw (M : mM) (a : Nat) (f : Nat → Int) (b j : Nat) : gr (sw M a f) b j = gr M b j := rfl
theorem kd_sw (M : mM) (a : Nat) (f : Nat → Int) (b : Nat) : kd (sw M a f) b = kd M b := rfl
theorem ln_sw (M : mM) (a : Nat) (f : Nat → Int) (b : Nat) : ln (sw M a f) b = ln M b := rfl
theorem nx_sw (M : mM) (a : Nat) (f : Nat → Int) : nx (sw M a f) = nx M := rfl
theorem zs_sw (M : mM) (a : Nat) (f : Nat → Int) : zs (sw M a f) = zs M := rfl
theorem gi_al (M : mM) (k n w b j : Nat) : gi (al M k n w) b j = if b = nx M then 0 else gi M b j := rfl
theorem gr_al (M : mM) (k n w b j : Nat) : gr (al M k n w) b j = if b = nx M then none else gr M b j := rfl
theorem kd_al (M : mM) (k n w b : Nat) : kd (al M k n w) b = if b = nx M then k else kd M b := rfl
theorem ln_al (M : mM) (k n w b : Nat) : ln (al M k n w) b = if b = nx M then n else ln M b := rfl
theorem nx_al (M : mM) (k n w : Nat) : nx (al M k n w) = nx M + 1 := rfl
theorem zs_al (M : mM) (k n w : Nat) : zs (al M k n w) = zs M + w := rfl
theorem mEn_cong {G : mG} {M M' : mM} {b : Nat} (hk : kd M' b = kd M b) (hl : ln M' b = ln M b) (hi : ∀ j, gi M' b j = gi M b j) (hr : ∀ j, gr M' b j = gr M b j) : mEn G M' b = mEn G M b := by
  have e : mFs G M' b = mFs G M b := by
    unfold mFs
    rw [hk]
    apply List.map_congr_left
    intro i _
    unfold mFv
    rw [hk, hi, hr]
  unfold mEn
  rw [hk, hl, e]
  simp only [hi, hr]
theorem mEn_si {G : mG} {M : mM} {a i b : Nat} {z : Int} (h : b ≠ a) : mEn G (si M a i z) b = mEn G M b :=
  mEn_cong rfl rfl (fun j => by rw [gi_si, if_neg (fun q => h q.1)]) (fun _ => rfl)
theorem mEn_sr {G : mG} {M : mM} {a i b : Nat} {z : Option Nat} (h : b ≠ a) : mEn G (sr M a i z) b = mEn G M b :=
  mEn_cong rfl rfl (fun _ => rfl) (fun j => by rw [gr_sr, if_neg (fun q => h q.1)])
theorem mEn_sw {G : mG} {M : mM} {a b : Nat} {f : Nat → Int} (h : b ≠ a) : mEn G (sw M a f) b = mEn G M b :=
  mEn_cong rfl rfl (fun j => by rw [gi_sw, if_neg h]) (fun _ => rfl)
theorem mEn_al {G : mG} {M : mM} {k n w b : Nat} (h : b < nx M) : mEn G (al M k n w) b = mEn G M b := by
  have h' : b ≠ nx M := by omega
  exact mEn_cong (by rw [kd_al, if_neg h']) (by rw [ln_al, if_neg h']) (fun j => by rw [gi_al, if_neg h']) (fun j => by rw [gr_al, if_neg h'])
/-- the fields of an object behind a store -/
theorem mFs_get {G : mG} {M : mM} {a c i : Nat} (h : kd M a = c) (hi : i < mFn c) : (mFs G M a)[i]? = some (mFv G M a i) := by
  subst h
  unfold mFs
  rw [List.getElem?_map, List.getElem?_range hi]
  rfl
theorem mFs_len {G : mG} {M : mM} {a c : Nat} (h : kd M a = c) : (mFs G M a).length = mFn c := by
  subst h
  simp [mFs]
theorem mFs_set {G : mG} {M M' : mM} {a c f : Nat} {v : Value} (h : kd M a = c) (hk : kd M' a = kd M a) (hv : f < mFn c → mFv G M' a f = v) (ho : ∀ i, i ≠ f → mFv G M' a i = mFv G M a i) : (mFs G M a).set f v = mFs G M' a := by
  subst h
  unfold mFs
  rw [hk]
  apply List.ext_getElem?
  intro i
  by_cases hi : i < mFn (kd M a)
  · by_cases e : i = f
    · subst e
      rw [List.getElem?_set_self (by simpa using hi), List.getElem?_map, List.getElem?_range hi]
      simp [hv hi]
    · rw [List.getElem?_set_ne (Ne.symm e), List.getElem?_map, List.getElem?_map, List.getElem?_range hi]
      simp [ho i e]
  · rw [List.getElem?_eq_none (by simp; omega), List.getElem?_eq_none (by simp; omega)]
theorem mFv_i {G : mG} {M : mM} {a c f : Nat} (h : kd M a = c) (ht : mIsR (mFt c f) = false) : mFv G M a f = .int (Int32.ofInt (gi M a f)) := by
  subst h
  unfold mFv
  rw [ht, if_neg (by decide)]
theorem mFv_r {G : mG} {M : mM} {a c f : Nat} (h : kd M a = c) (ht : mIsR (mFt c f) = true) : mFv G M a f = va_rf (mRf G (gr M a f)) := by
  subst h
  unfold mFv
  rw [ht, if_pos rfl]
/-! the locals -/
def mLl (G : mG) : Nat → List mV → List (Nat × Value)
  | _, [] => []
  | k, none :: t => mLl G (k + 1) t
  | k, some u :: t => (k, tv G (some u)) :: mLl G (k + 1) t
theorem mLl_mem {G : mG} : ∀ (ls : List mV) (n : Nat) (q : Nat × Value), q ∈ mLl G n ls ↔ ∃ i u, ls[i]? = some (some u) ∧ q = (n + i, tv G (some u))
  | [], n, q => by simp [mLl]
  | none :: t, n, q => by
    rw [mLl, mLl_mem t (n + 1) q]
    constructor
    · rintro ⟨i, u, h1, h2⟩
      exact ⟨i + 1, u, by simpa using h1, by rw [h2]; congr 1; omega⟩
    · rintro ⟨i, u, h1, h2⟩
      cases i with
      | zero => simp at h1
      | succ i => exact ⟨i, u, by simpa using h1, by rw [h2]; congr 1; omega⟩
  | some w :: t, n, q => by
    rw [mLl, List.mem_cons, mLl_mem t (n + 1) q]
    constructor
    · rintro (h | ⟨i, u, h1, h2⟩)
      · exact ⟨0, w, rfl, by rw [h]; rfl⟩
      · exact ⟨i + 1, u, by simpa using h1, by rw [h2]; congr 1; omega⟩
    · rintro ⟨i, u, h1, h2⟩
      cases i with
      | zero =>
        left
        rw [List.getElem?_cons_zero] at h1
        cases h1
        rw [h2]
        rfl
      | succ i =>
        right
        exact ⟨i, u, by simpa using h1, by rw [h2]; congr 1; omega⟩
theorem mLl_at {G : mG} {ls : List mV} {lm : Array Slot} {n k : Nat} {u : Int ⊕ (Int ⊕ Option Nat)} (h : lv_has lm n (mLl G 0 ls)) (hk : ls[k]? = some (some u)) : lm[k]? = some (.val (tv G (some u))) := by
  have := h.2.2 (k, tv G (some u)) ((mLl_mem ls 0 _).mpr ⟨k, u, hk, by simp⟩)
  exact this
theorem mLl_set {G : mG} {ls : List mV} {lm : Array Slot} {n k : Nat} {v : mV} (h : lv_has lm n ((k, tv G v) :: (mLl G 0 ls).filter (fun q => !(q.1 == k) && !(q.1 + 1 == k && q.2.category == 2)))) (hv : v ≠ none) (hk : k < ls.length) (hs : okS ls k) : lv_has lm n (mLl G 0 (ls.set k v)) := by
  refine ⟨h.1, h.2.1, fun q hq => ?_⟩
  obtain ⟨i, u, h1, rfl⟩ := (mLl_mem _ 0 _).mp hq
  apply h.2.2
  by_cases e : i = k
  · subst e
    rw [List.getElem?_set_self hk] at h1
    rw [List.mem_cons]
    left
    rw [Option.some.inj h1]
    simp
  · rw [List.getElem?_set_ne (Ne.symm e)] at h1
    refine List.mem_cons_of_mem _ (List.mem_filter.mpr ⟨(mLl_mem _ 0 _).mpr ⟨i, u, h1, rfl⟩, ?_⟩)
    simp only [Nat.zero_add, Bool.and_eq_true, Bool.not_eq_true', beq_eq_false_iff_ne, ne_eq, e, not_false_eq_true, true_and, Bool.and_eq_false_iff]
    by_cases e2 : i + 1 = k
    · right
      intro hc
      rcases u with z | z | o
      · simp [tv, Value.category] at hc
      · exact hs i z e2 h1
      · rcases o with _ | a <;> simp [tv, mRf, va_rf, Value.category] at hc
    · left
      exact e2
theorem mLl_set2 {G : mG} {ls : List mV} {lm : Array Slot} {n k : Nat} {v : mV} (h : lv_has lm n ((k, tv G v) :: (mLl G 0 ls).filter (fun q => !(q.1 == k) && (!(q.1 == k + 1) && !(q.1 + 1 == k && q.2.category == 2))))) (hv : v ≠ none) (hk : k + 1 < ls.length) (hs : okS ls k) : lv_has lm n (mLl G 0 ((ls.set k v).set (k + 1) none)) := by
  refine ⟨h.1, h.2.1, fun q hq => ?_⟩
  obtain ⟨i, u, h1, rfl⟩ := (mLl_mem _ 0 _).mp hq
  apply h.2.2
  by_cases e1 : i = k + 1
  · subst e1
    rw [List.getElem?_set_self (by simpa using hk)] at h1
    cases h1
  · rw [List.getElem?_set_ne (Ne.symm e1)] at h1
    by_cases e : i = k
    · subst e
      rw [List.getElem?_set_self (by omega)] at h1
      rw [List.mem_cons]
      left
      rw [Option.some.inj h1]
      simp
    · rw [List.getElem?_set_ne (Ne.symm e)] at h1
      refine List.mem_cons_of_mem _ (List.mem_filter.mpr ⟨(mLl_mem _ 0 _).mpr ⟨i, u, h1, rfl⟩, ?_⟩)
      simp only [Nat.zero_add, Bool.and_eq_true, Bool.not_eq_true', beq_eq_false_iff_ne, ne_eq, e, e1, not_false_eq_true, true_and, Bool.and_eq_false_iff]
      by_cases e2 : i + 1 = k
      · right
        intro hc
        rcases u with z | z | o
        · simp [tv, Value.category] at hc
        · exact hs i z e2 h1
        · rcases o with _ | a <;> simp [tv, mRf, va_rf, Value.category] at hc
      · left
        exact e2
/-- the locals at a method's start -/
theorem mEnt_args {G : mG} : ∀ (as : List mV) (n : Nat) (q : Nat × Value), (∀ v ∈ as, v ≠ none) → q ∈ mLl G n (mEnt as) → q ∈ lv_args n (as.map (tv G))
  | [], n, q, _, h => by simp [mEnt, mLl] at h
  | v :: t, n, q, hv, h => by
    have hv0 : v ≠ none := hv v List.mem_cons_self
    have ht : ∀ w ∈ t, w ≠ none := fun w hw => hv w (List.mem_cons_of_mem _ hw)
    rcases v with _ | z | z | o
    · exact absurd rfl hv0
    · have e : mEnt (some (.inl z) :: t) = some (.inl z) :: mEnt t := rfl
      rw [e, mLl, List.mem_cons] at h
      rw [List.map_cons, lv_args, List.mem_cons]
      rcases h with h | h
      · exact Or.inl h
      · exact Or.inr (by
          have := mEnt_args t (n + 1) q ht h
          simpa [tv, Value.category] using this)
    · have e : mEnt (some (.inr (.inl z)) :: t) = some (.inr (.inl z)) :: none :: mEnt t := rfl
      rw [e, mLl, mLl, List.mem_cons] at h
      rw [List.map_cons, lv_args, List.mem_cons]
      rcases h with h | h
      · exact Or.inl h
      · exact Or.inr (by
          have := mEnt_args t (n + 1 + 1) q ht h
          simpa [tv, Value.category] using this)
    · have e : mEnt (some (.inr (.inr o)) :: t) = some (.inr (.inr o)) :: mEnt t := rfl
      rw [e, mLl, List.mem_cons] at h
      rw [List.map_cons, lv_args, List.mem_cons]
      rcases h with h | h
      · exact Or.inl h
      · exact Or.inr (by
          have := mEnt_args t (n + 1) q ht h
          have hc : (tv G (some (.inr (.inr o)))).category = 1 := by rcases o with _ | a <;> rfl
          rw [hc, if_neg (by decide)]
          exact this)
theorem mEnt_len {G : mG} : ∀ (as : List mV), (lg_sl (as.map (tv G))).length = (mEnt as).length
  | [] => rfl
  | v :: t => by
    have ih := mEnt_len (G := G) t
    have e1 : lg_sl ((v :: t).map (tv G)) = (if (tv G v).category = 2 then [.val (tv G v), .second] else [.val (tv G v)]) ++ lg_sl (t.map (tv G)) := by simp [lg_sl]
    rw [e1, List.length_append, ih]
    rcases v with _ | z | z | _ | a <;> simp [mEnt, tv, mRf, va_rf, Value.category] <;> omega
theorem mLl_rep {G : mG} : ∀ (k n : Nat), mLl G n (List.replicate k vj) = []
  | 0, _ => rfl
  | k + 1, n => by
    rw [List.replicate_succ]
    exact mLl_rep k (n + 1)
theorem mLl_app {G : mG} : ∀ (as bs : List mV) (n : Nat), mLl G n (as ++ bs) = mLl G n as ++ mLl G (n + as.length) bs
  | [], bs, n => by simp [mLl]
  | none :: t, bs, n => by
    rw [List.cons_append, mLl, mLl, mLl_app t bs (n + 1), List.length_cons]
    congr 2
    omega
  | some u :: t, bs, n => by
    rw [List.cons_append, mLl, mLl, mLl_app t bs (n + 1), List.length_cons, List.cons_append]
    congr 3
    omega
theorem mPad_len {as : List mV} {n : Nat} (h : (mEnt as).length ≤ n) : (mPad as n).length = n := by
  unfold mPad
  rw [List.length_append, List.length_replicate]
  omega
theorem mPad_has {G : mG} {as : List mV} {n : Nat} (h : (mEnt as).length ≤ n) (hv : ∀ v ∈ as, v ≠ none) : lv_has ((lg_sl (as.map (tv G)) ++ List.replicate (n - (lg_sl (as.map (tv G))).length) Slot.unset).toArray) n (mLl G 0 (mPad as n)) := by
  have h0 := lv_entry (as.map (tv G)) (n := n) (by rw [mEnt_len]; exact h)
  refine ⟨h0.1, h0.2.1, fun q hq => h0.2.2 q ?_⟩
  unfold mPad at hq
  rw [mLl_app, mLl_rep, List.append_nil] at hq
  exact mEnt_args as 0 q hv hq
