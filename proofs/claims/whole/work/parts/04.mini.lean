/-! ===== the small machine: values, memory, operations ===== -/
abbrev mV : Type := Option (Int ⊕ (Int ⊕ Option Nat))
def vj : mV := none
def vi (z : Int) : mV := some (.inl z)
def vl (z : Int) : mV := some (.inr (.inl z))
def vr (o : Option Nat) : mV := some (.inr (.inr o))
/-- ints (and longs) by cell and place, references by cell and place, the kind of a cell, the length of an array, the next cell, the slots so far -/
abbrev mM : Type := (Nat → Nat → Int) × (Nat → Nat → Option Nat) × (Nat → Nat) × (Nat → Nat) × Nat × Nat
def gi (M : mM) (a i : Nat) : Int := M.1 a i
def gr (M : mM) (a i : Nat) : Option Nat := M.2.1 a i
def kd (M : mM) (a : Nat) : Nat := M.2.2.1 a
def ln (M : mM) (a : Nat) : Nat := M.2.2.2.1 a
def nx (M : mM) : Nat := M.2.2.2.2.1
def zs (M : mM) : Nat := M.2.2.2.2.2
def si (M : mM) (a i : Nat) (z : Int) : mM := (fun b j => if b = a ∧ j = i then z else M.1 b j, M.2)
def sr (M : mM) (a i : Nat) (o : Option Nat) : mM := (M.1, fun b j => if b = a ∧ j = i then o else M.2.1 b j, M.2.2)
/-- a whole row of ints -/
def sw (M : mM) (a : Nat) (f : Nat → Int) : mM := (fun b j => if b = a then f j else M.1 b j, M.2)
/-- a new cell of kind k, length n, w slots -/
def al (M : mM) (k n w : Nat) : mM :=
  (fun b j => if b = nx M then 0 else M.1 b j, fun b j => if b = nx M then none else M.2.1 b j, fun b => if b = nx M then k else kd M b, fun b => if b = nx M then n else ln M b, nx M + 1, zs M + w)
/-- new int[n][w]: the outer cell, then the rows -/
def al2 (M : mM) (n w : Nat) : mM :=
  (fun b j => if nx M ≤ b ∧ b ≤ nx M + n then 0 else M.1 b j, fun b j => if b = nx M then (if j < n then some (nx M + 1 + j) else none) else if nx M ≤ b ∧ b ≤ nx M + n then none else M.2.1 b j, fun b => if b = nx M then 21 else if nx M ≤ b ∧ b ≤ nx M + n then 14 else kd M b, fun b => if b = nx M then n else if nx M ≤ b ∧ b ≤ nx M + n then w else ln M b, nx M + 1 + n, zs M + n + n * w)
def wr (z : Int) : Int := (Int32.ofInt z).toInt
def wl (z : Int) : Int := (Int64.ofInt z).toInt
def wb (z : Int) : Int := (Int8.ofInt z).toInt
abbrev mS : Type := Nat × List mV × List mV × mM
abbrev mR : Type := mS ⊕ (mV × mM)
abbrev mC : Type := Nat → List mV → mM → (mV × mM) → Prop
abbrev mO : Type := mC → List mV → List mV → mM → mR → Prop
def o_stuck : mO := fun _ _ _ _ _ => False
def o_const (v : mV) (n : Nat) : mO := fun _ ls st M r => r = .inl (n, ls, v :: st, M)
def o_iload (k n : Nat) : mO := fun _ ls st M r => ∃ z, ls[k]? = some (vi z) ∧ r = .inl (n, ls, vi z :: st, M)
def o_lload (k n : Nat) : mO := fun _ ls st M r => ∃ z, ls[k]? = some (vl z) ∧ r = .inl (n, ls, vl z :: st, M)
def o_aload (k n : Nat) : mO := fun _ ls st M r => ∃ o, ls[k]? = some (vr o) ∧ r = .inl (n, ls, vr o :: st, M)
/-- no long just ahead of place k -/
def okS (ls : List mV) (k : Nat) : Prop := ∀ (j : Nat) (z : Int), j + 1 = k → ls[j]? ≠ some (vl z)
def o_istore (k n : Nat) : mO := fun _ ls st M r => ∃ z st', st = vi z :: st' ∧ k < ls.length ∧ okS ls k ∧ r = .inl (n, ls.set k (vi z), st', M)
def o_astore (k n : Nat) : mO := fun _ ls st M r => ∃ o st', st = vr o :: st' ∧ k < ls.length ∧ okS ls k ∧ r = .inl (n, ls.set k (vr o), st', M)
def o_lstore (k n : Nat) : mO := fun _ ls st M r => ∃ z st', st = vl z :: st' ∧ k + 1 < ls.length ∧ okS ls k ∧ r = .inl (n, (ls.set k (vl z)).set (k + 1) vj, st', M)
def o_iinc (k : Nat) (d : Int) (n : Nat) : mO := fun _ ls st M r => ∃ z, ls[k]? = some (vi z) ∧ okS ls k ∧ r = .inl (n, ls.set k (vi (wr (z + d))), st, M)
def o_bin (f : Int32 → Int32 → Int32) (n : Nat) : mO := fun _ ls st M r => ∃ x y st', st = vi y :: vi x :: st' ∧ r = .inl (n, ls, vi (f (Int32.ofInt x) (Int32.ofInt y)).toInt :: st', M)
def o_lbin (f : Int64 → Int64 → Int64) (n : Nat) : mO := fun _ ls st M r => ∃ x y st', st = vl y :: vl x :: st' ∧ r = .inl (n, ls, vl (f (Int64.ofInt x) (Int64.ofInt y)).toInt :: st', M)
def o_un (f : Int → Int) (n : Nat) : mO := fun _ ls st M r => ∃ x st', st = vi x :: st' ∧ r = .inl (n, ls, vi (f x) :: st', M)
def o_i2l (n : Nat) : mO := fun _ ls st M r => ∃ x st', st = vi x :: st' ∧ r = .inl (n, ls, vl x :: st', M)
def o_lcmp (n : Nat) : mO := fun _ ls st M r => ∃ x y st', st = vl y :: vl x :: st' ∧ r = .inl (n, ls, vi (if y < x then 1 else if x = y then 0 else -1) :: st', M)
def o_dup (n : Nat) : mO := fun _ ls st M r => ∃ v st', st = v :: st' ∧ (∀ z, v ≠ vl z) ∧ r = .inl (n, ls, v :: v :: st', M)
def o_dup2 (n : Nat) : mO := fun _ ls st M r => ∃ v w st', st = v :: w :: st' ∧ (∀ z, v ≠ vl z) ∧ (∀ z, w ≠ vl z) ∧ r = .inl (n, ls, v :: w :: v :: w :: st', M)
def o_goto (n : Nat) : mO := fun _ ls st M r => r = .inl (n, ls, st, M)
/-- a branch on the top against 0 (k: 0 eq, 1 ne, 2 lt, 3 ge, 4 gt, 5 le) -/
def mCmp (k : Nat) (x y : Int) : Prop := match k with
  | 0 => x = y
  | 1 => x ≠ y
  | 2 => x < y
  | 3 => y ≤ x
  | 4 => y < x
  | _ => x ≤ y
def o_if (k t n : Nat) : mO := fun _ ls st M r => ∃ x st', st = vi x :: st' ∧ ((mCmp k x 0 ∧ r = .inl (t, ls, st', M)) ∨ (¬ mCmp k x 0 ∧ r = .inl (n, ls, st', M)))
def o_icmp (k t n : Nat) : mO := fun _ ls st M r => ∃ x y st', st = vi y :: vi x :: st' ∧ ((mCmp k x y ∧ r = .inl (t, ls, st', M)) ∨ (¬ mCmp k x y ∧ r = .inl (n, ls, st', M)))
def o_ifnull (t n : Nat) : mO := fun _ ls st M r => ∃ o st', st = vr o :: st' ∧ ((o = none ∧ r = .inl (t, ls, st', M)) ∨ (o ≠ none ∧ r = .inl (n, ls, st', M)))
def mSw : List (Int × Nat) → Nat → Int → Nat
  | [], d, _ => d
  | (k, t) :: q, d, z => if z = k then t else mSw q d z
def o_sw (ps : List (Int × Nat)) (d : Nat) : mO := fun _ ls st M r => ∃ x st', st = vi x :: st' ∧ r = .inl (mSw ps d x, ls, st', M)
def o_geti (c f n : Nat) : mO := fun _ ls st M r => ∃ a st', st = vr (some a) :: st' ∧ kd M a = c ∧ r = .inl (n, ls, vi (gi M a f) :: st', M)
def o_getr (c f n : Nat) : mO := fun _ ls st M r => ∃ a st', st = vr (some a) :: st' ∧ kd M a = c ∧ r = .inl (n, ls, vr (gr M a f) :: st', M)
def o_puti (c f n : Nat) : mO := fun _ ls st M r => ∃ a z st', st = vi z :: vr (some a) :: st' ∧ kd M a = c ∧ r = .inl (n, ls, st', si M a f z)
def o_putz (c f n : Nat) : mO := fun _ ls st M r => ∃ a z st', st = vi z :: vr (some a) :: st' ∧ kd M a = c ∧ (z = 0 ∨ z = 1) ∧ r = .inl (n, ls, st', si M a f z)
def o_putr (c f n : Nat) : mO := fun _ ls st M r => ∃ a o st', st = vr o :: vr (some a) :: st' ∧ kd M a = c ∧ r = .inl (n, ls, st', sr M a f o)
/-- the elements of arrays of ints (k = 14), bytes (13), booleans (16) -/
def o_ald (k n : Nat) : mO := fun _ ls st M r => ∃ a i st', st = vi i :: vr (some a) :: st' ∧ kd M a = k ∧ 0 ≤ i ∧ i < ln M a ∧ r = .inl (n, ls, vi (gi M a i.toNat) :: st', M)
def o_lald (n : Nat) : mO := fun _ ls st M r => ∃ a i st', st = vi i :: vr (some a) :: st' ∧ kd M a = 15 ∧ 0 ≤ i ∧ i < ln M a ∧ r = .inl (n, ls, vl (gi M a i.toNat) :: st', M)
def o_rald (k n : Nat) : mO := fun _ ls st M r => ∃ a i st', st = vi i :: vr (some a) :: st' ∧ kd M a = k ∧ 0 ≤ i ∧ i < ln M a ∧ r = .inl (n, ls, vr (gr M a i.toNat) :: st', M)
def o_iast (n : Nat) : mO := fun _ ls st M r => ∃ a i z st', st = vi z :: vi i :: vr (some a) :: st' ∧ kd M a = 14 ∧ 0 ≤ i ∧ i < ln M a ∧ r = .inl (n, ls, st', si M a i.toNat z)
def o_bast (n : Nat) : mO := fun _ ls st M r => ∃ a i z st', st = vi z :: vi i :: vr (some a) :: st' ∧ kd M a = 13 ∧ 0 ≤ i ∧ i < ln M a ∧ r = .inl (n, ls, st', si M a i.toNat (wb z))
def o_zast (n : Nat) : mO := fun _ ls st M r => ∃ a i z st', st = vi z :: vi i :: vr (some a) :: st' ∧ kd M a = 16 ∧ 0 ≤ i ∧ i < ln M a ∧ (z = 0 ∨ z = 1) ∧ r = .inl (n, ls, st', si M a i.toNat z)
def o_last (n : Nat) : mO := fun _ ls st M r => ∃ a i z st', st = vl z :: vi i :: vr (some a) :: st' ∧ kd M a = 15 ∧ 0 ≤ i ∧ i < ln M a ∧ r = .inl (n, ls, st', si M a i.toNat z)
def o_rast (k c n : Nat) : mO := fun _ ls st M r => ∃ a i b st', st = vr (some b) :: vi i :: vr (some a) :: st' ∧ kd M a = k ∧ kd M b = c ∧ 0 ≤ i ∧ i < ln M a ∧ r = .inl (n, ls, st', sr M a i.toNat (some b))
def o_alen (n : Nat) : mO := fun _ ls st M r => ∃ a st', st = vr (some a) :: st' ∧ 13 ≤ kd M a ∧ kd M a ≤ 21 ∧ r = .inl (n, ls, vi (ln M a) :: st', M)
def o_new (c w n : Nat) : mO := fun _ ls st M r => r = .inl (n, ls, vr (some (nx M)) :: st, al M c 0 w)
def o_newa (k n : Nat) : mO := fun _ ls st M r => ∃ z st', st = vi z :: st' ∧ 0 ≤ z ∧ z ≤ 100000 ∧ r = .inl (n, ls, vr (some (nx M)) :: st', al M k z.toNat z.toNat)
def o_mna (n : Nat) : mO := fun _ ls st M r => ∃ x y st', st = vi y :: vi x :: st' ∧ 0 ≤ x ∧ x ≤ 1000 ∧ 0 ≤ y ∧ y ≤ 1000 ∧ r = .inl (n, ls, vr (some (nx M)) :: st', al2 M x.toNat y.toNat)
def mCat (v : mV) : Nat := match v with
  | some (.inr (.inl _)) => 2
  | _ => 1
def o_objinit (n : Nat) : mO := fun _ ls st M r => ∃ a st', st = vr (some a) :: st' ∧ (st'.map mCat).sum ≤ 8 ∧ r = .inl (n, ls, st', M)
/-- a call of method y with k arguments (the receiver among them): with an answer (b) or without -/
def o_call (y k : Nat) (b : Bool) (n : Nat) : mO := fun C ls st M r => ∃ as st' v M', st = as.reverse ++ st' ∧ as.length = k ∧ (st'.map mCat).sum ≤ 8 ∧ C y as M (v, M') ∧ (if b then v ≠ none else v = none) ∧ r = .inl (n, ls, (if b then v :: st' else st'), M')
/-- the same with a receiver of kind c -/
def o_callv (y c k : Nat) (b : Bool) (n : Nat) : mO := fun C ls st M r => ∃ a as st' v M', st = as.reverse ++ (vr (some a) :: st') ∧ as.length = k ∧ kd M a = c ∧ (st'.map mCat).sum ≤ 8 ∧ C y (vr (some a) :: as) M (v, M') ∧ (if b then v ≠ none else v = none) ∧ r = .inl (n, ls, (if b then v :: st' else st'), M')
def o_copy (n : Nat) : mO := fun _ ls st M r => ∃ a b i j k st', st = vi k :: vi j :: vr (some b) :: vi i :: vr (some a) :: st' ∧ kd M a = 14 ∧ kd M b = 14 ∧ 0 ≤ i ∧ 0 ≤ j ∧ 0 ≤ k ∧ i + k ≤ ln M a ∧ j + k ≤ ln M b ∧ a ≠ b ∧ (st'.map mCat).sum ≤ 8 ∧ r = .inl (n, ls, st', sw M b (fun q => if j ≤ q ∧ q < j + k then gi M a (i + (q - j)).toNat else gi M b q))
def o_iret : mO := fun _ _ st M r => ∃ z, st = [vi z] ∧ r = .inr (vi z, M)
def o_zret : mO := fun _ _ st M r => ∃ z, st = [vi z] ∧ (z = 0 ∨ z = 1) ∧ r = .inr (vi z, M)
def o_lret : mO := fun _ _ st M r => ∃ z, st = [vl z] ∧ r = .inr (vl z, M)
def o_aret : mO := fun _ _ st M r => ∃ o, st = [vr o] ∧ r = .inr (vr o, M)
def o_vret : mO := fun _ _ st M r => st = [] ∧ r = .inr (vj, M)
/-! ===== running ===== -/
abbrev mT : Type := List (Nat × mO)
def mLk : mT → Nat → mO
  | [], _ => o_stuck
  | (p, o) :: t, pc => bif Nat.beq p pc then o else mLk t pc
def mRun (C : mC) (t : mT) : Nat → mS → (mV × mM) → Prop
  | 0, _, _ => False
  | k + 1, x, r => mLk t x.1 C x.2.1 x.2.2.1 x.2.2.2 (.inr r) ∨ ∃ x', mLk t x.1 C x.2.1 x.2.2.1 x.2.2.2 (.inl x') ∧ mRun C t k x' r
/-- the locals at a method's start -/
def mEnt (as : List mV) : List mV := as.flatMap fun v => match v with
  | some (.inr (.inl _)) => [v, vj]
  | _ => [v]
def mPad (as : List mV) (n : Nat) : List mV := mEnt as ++ List.replicate (n - (mEnt as).length) vj
/-- a system: of each method's number its code and its number of locals -/
abbrev mP : Type := Nat → mT × Nat
def mCall (P : mP) : Nat → mC
  | 0, _, _, _, _ => False
  | d + 1, y, as, M, r => (mEnt as).length ≤ (P y).2 ∧ ∃ k, mRun (mCall P d) (P y).1 k (0, mPad as (P y).2, [], M) r
