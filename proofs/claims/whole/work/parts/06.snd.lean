/-! ===== soundness of the small machine's operations ===== -/
def TB : List Cond := lw_tbl.filter goodWord
theorem TB_of {w : Cond} (h : w ∈ lw_tbl) (hg : goodWord w = true) : w ∈ TB := List.mem_filter.mpr ⟨h, hg⟩
theorem TB_ws {ws : List Cond} (h : ∀ w ∈ ws, w ∈ lw_tbl) (hg : ws.all goodWord = true) : ∀ w ∈ ws, w ∈ TB := fun w hw => TB_of (h w hw) (List.all_eq_true.mp hg w hw)
theorem TB_good {ws : List Cond} (h : ∀ w ∈ ws, w ∈ TB) : GoodIn TB ws := fun w hw => ⟨h w hw, good_of_word (List.mem_filter.mp (h w hw)).2⟩
/-- the words that don't move with the tables by themselves: private constructors of nest mates; arrays of references -/
abbrev mNst : List (String × Nat × MethodName × String) := [("GuideDesk", 11, yX3_init, "GuideDesk"), ("GuideDesk", 18, yX1_init, "GuideDesk"), ("GuideDesk", 25, yX8_init, "GuideDesk"), ("GuideDesk", 32, yX9_init, "GuideDesk"), ("GuideDesk", 39, yX5_init, "GuideDesk"), ("GuideDesk", 46, yX10_init, "GuideDesk"), ("GuideDesk", 56, yX4_init, "GuideDesk"), ("GuideDesk$Day", 139, yX6_init, "GuideDesk"), ("GuideDesk$Plan", 47, yX0_init, "GuideDesk")]
/-- the tables say of int[][] what a new one asks -/
def mAA (U : State) : Prop := (Cond.arrayOver (.array .int)).before #[] U = true
theorem mAA.moved {u U : State} (hvm : u.vm.Alike U.vm) (h : mAA u) : mAA U := Jvm.Stand.arrayOver_alikeB hvm h
/-- the words of Tape.kindOfWord: lengths, bytes, places in the pool -/
def lnK : List Nat := [4, 5, 2, 2, 3, 4, 5, 5, 7, 7, 4, 5, 6, 5]
def byK : List (List Int32) := [[119, 105, 115, 104], [110, 101, 118, 101, 114], [105, 102], [111, 114], [97, 110, 100], [108, 105, 118, 101], [102, 105, 114, 115, 116], [116, 105, 116, 108, 101], [101, 112, 105, 115, 111, 100, 101], [99, 104, 97, 110, 110, 101, 108], [102, 114, 111, 109], [117, 110, 116, 105, 108], [108, 101, 110, 103, 116, 104], [116, 114, 117, 115, 116]]
def tmK : List (Nat × Nat × String) := [(0, 65, "wish"), (1, 71, "never"), (2, 73, "if"), (3, 75, "or"), (4, 77, "and"), (5, 79, "live"), (6, 81, "first"), (7, 83, "title"), (8, 85, "episode"), (9, 87, "channel"), (10, 89, "from"), (11, 91, "until"), (12, 93, "length"), (13, 95, "trust")]
/-- what the JDK's strings ask: they lie below the own cells -/
def mJ (G : mG) (U : State) (H : Heap) : Prop := va_Z "java/lang/String" "COMPACT_STRINGS" "Z" (.int 1) (fun q => G.1 ≤ q) U H ∧ ((∃ q : Nat, va_Z "jdk/internal/util/Preconditions" "SIOOBE_FORMATTER" "Ljava/util/function/BiFunction;" (.ref q) (fun q => G.1 ≤ q) U H) ∨ va_Z "jdk/internal/util/Preconditions" "SIOOBE_FORMATTER" "Ljava/util/function/BiFunction;" .null (fun q => G.1 ≤ q) U H) ∧ vk_S 14 lnK byK (fun i => G.2.2 (100 + i)) (fun i => G.2.2 (200 + i)) (fun q => G.1 ≤ q) U H ∧ ∀ q ∈ tmK, vk_R "GuideDesk$Tape" q.2.1 q.2.2 (G.2.2 (100 + q.1)) U
theorem mJ.moved {G : mG} {s U : State} {H H1 : Heap} (hW : s.WarmedH U.vm) (hq : ∀ a : Nat, a < H.size → ¬ G.1 ≤ a → H1[a]? = H[a]?) (h : mJ G s H) : mJ G U H1 := by
  obtain ⟨h1, h2, h3, h4⟩ := h
  exact ⟨(va_Z.moved hW.alike h1).kept hq, h2.imp (fun ⟨q, h2⟩ => ⟨q, (va_Z.moved hW.alike h2).kept hq⟩) (fun h2 => (va_Z.moved hW.alike h2).kept hq), (vk_S.moved hW.alike h3).kept hq, fun x hx => vk_R.warm hW (h4 x hx)⟩
theorem mJ.same {G : mG} {u U : State} {H : Heap} (hv : u.vm = U.vm) (h : mJ G u H) : mJ G U H := by
  have hal : u.vm.Alike U.vm := by rw [← hv]; exact Vm.Alike.refl _
  obtain ⟨h1, h2, h3, h4⟩ := h
  exact ⟨va_Z.moved hal h1, h2.imp (fun ⟨q, h2⟩ => ⟨q, va_Z.moved hal h2⟩) (fun h2 => va_Z.moved hal h2), vk_S.moved hal h3, fun x hx => vk_R.same hv.symm (h4 x hx)⟩
def mK (G : mG) (U : State) : Prop := va_K G.2.1 vwCl (mTys G) U ∧ (∀ q ∈ mNst, va_Nw (.methodLinkNest q.1 q.2.1 q.2.2.1 q.2.2.2) U) ∧ (∀ C ∈ ([RX0, RX2, RX6, RX7] : List String), va_AO C U) ∧ mAA U ∧ mJ G U U.heap
theorem mK.moved {G : mG} {s U : State} (h : mK G s) (hW : s.WarmedH U.vm) (hH : ∀ a : Nat, a < s.heap.size → ¬ G.1 ≤ a → U.heap[a]? = s.heap[a]?) : mK G U :=
  ⟨va_K.moved hW.alike h.1, fun q hq => va_Nw.warmM hW (h.2.1 q hq), fun C hC => va_AO.moved hW.alike (h.2.2.1 C hC), mAA.moved hW.alike h.2.2.2.1, mJ.moved hW hH h.2.2.2.2⟩
theorem mK.same {G : mG} {u U : State} (h : mK G u) (hv : u.vm = U.vm) (hh : u.heap = U.heap) : mK G U :=
  ⟨va_K.moved (u := u) (U := U) (by rw [← hv]; exact Vm.Alike.refl _) h.1, fun q hq => va_Nw.same rfl hv (h.2.1 q hq), fun C hC => va_AO.moved (by rw [← hv]; exact Vm.Alike.refl _) (h.2.2.1 C hC), mAA.moved (by rw [← hv]; exact Vm.Alike.refl _) h.2.2.2.1, by rw [← hh]; exact mJ.same hv h.2.2.2.2⟩
/-- the words of locals for calls d deep -/
def mLc (d : Nat) : Nat := 64 * d + 512
/-- own class, code, number of locals, answer, a constructor or not -/
abbrev mI : Type := String × ByteArray × Nat × Option FieldType × Bool
def mCx (G : mG) (I : mI) (p : Program) (R : Room) (s : State) (m : MethodId) (args : Array Value) (meth : Method) (c : Code) (d : Nat) : Prop :=
  p.tables.exec = Jvm.exec ∧ c.code = I.2.1 ∧ c.maxLocals = I.2.2.1 ∧ meth.sig.returnType = I.2.2.2.1 ∧ meth.locks = false ∧ s.vm.findClass I.1 = some m.cls ∧ (∀ w ∈ TB, w.before args s = true) ∧ mK G s ∧ (I.2.2.2.2 = true → meth.name = "<init>") ∧ d + 9 ≤ R.frames ∧ mLc d + 64 ≤ R.locals ∧ G.1 ≤ s.heap.size
def mRU (G : mG) (M : mM) (U : State) : Prop := va_P G.2.1 vwCl (mPl G M) U.heap ∧ U.heap.size = G.1 + nx M ∧ mK G U
def mQc (G : mG) (r : mV × mM) : Array Value → State → Outcome → State → Prop := fun _ st oc t => oc = .returned (rv G r.1) ∧ mRU G r.2 t ∧ va_F (fun q => G.1 ≤ q) st t
/-- of each method's number its name and what else is said of it -/
abbrev mF : Type := Nat → MethodName × mI
def mMet (l : Launch) (G : mG) (F : mF) (d y : Nat) (as : List mV) (M : mM) (r : mV × mM) : Prop :=
  Met l (F y).1 (.code (F y).1 (F y).2.2.1 (F y).2.2.2.1 (F y).2.2.2.2.1 :: TB) { frames := d + 8, cells := nx r.2 - nx M, slots := zs r.2 - zs M, locals := mLc d } (va_Pc (as.map (tv G)) (fun U => mRU G M U)) (mQc G r) (nx r.2 - nx M) (zs r.2 - zs M) (fun q => G.1 ≤ q)
def mGood (l : Launch) (G : mG) (F : mF) (d : Nat) (C : mC) : Prop := ∀ y as M r, C y as M r → (∀ v ∈ as, okV v) → mWf M → mWf r.2 ∧ nx M ≤ nx r.2 ∧ zs M ≤ zs r.2 ∧ (r.1 = none ∨ okV r.1) ∧ mMet l G F d y as M r
def mOk (n : Nat) (ls st : List mV) (M : mM) : Prop := mWf M ∧ (∀ v ∈ st, okV v) ∧ (∀ v ∈ ls, v = none ∨ okV v) ∧ ls.length = n
def mAt (p : Program) (l : Launch) (e : Env) (R : Room) (s : State) (m : MethodId) (args : Array Value) (below : List Frame) (meth : Method) (c : Code) (Q : State → Prop) (G : mG) (n0 z0 : Nat) (x : mS) : Prop :=
  ∀ (H : Heap) (locs : List Loc) (lm : Array Slot) (cells slots : Nat), va_P G.2.1 vwCl (mPl G x.2.2.2) H → H.size = G.1 + nx x.2.2.2 → va_S (fun q => G.1 ≤ q) s.heap H locs → lv_has lm x.2.1.length (mLl G 0 x.2.1) → nx x.2.2.2 = n0 + cells → zs x.2.2.2 = z0 + slots →
    W p l e R s m args below meth c H locs cells slots Q (F0 m x.1 lm (x.2.2.1.map (tv G)))
def mSnd (F : mF) (I : mI) (pc : Nat) (o : mO) : Prop := ∀ (l : Launch) (G : mG) (d : Nat) (C : mC), mGood l G F d C → ∀ (ls st : List mV) (M : mM), mOk I.2.2.1 ls st M →
  (∀ x', o C ls st M (.inl x') → mOk I.2.2.1 x'.2.1 x'.2.2.1 x'.2.2.2 ∧ nx M ≤ nx x'.2.2.2 ∧ zs M ≤ zs x'.2.2.2 ∧
    ∀ (p : Program) (e : Env) (R : Room) (s : State) (m : MethodId) (args : Array Value) (below : List Frame) (meth : Method) (c : Code) (Q : State → Prop) (n0 z0 : Nat), mCx G I p R s m args meth c d → nx x'.2.2.2 ≤ n0 + R.cells → zs x'.2.2.2 ≤ z0 + R.slots → mAt p l e R s m args below meth c Q G n0 z0 x' → mAt p l e R s m args below meth c Q G n0 z0 (pc, ls, st, M)) ∧
  (∀ v M', o C ls st M (.inr (v, M')) → M' = M ∧ (v = none ∨ okV v) ∧
    ∀ (p : Program) (e : Env) (R : Room) (s : State) (m : MethodId) (args : Array Value) (below : List Frame) (meth : Method) (c : Code) (n0 z0 : Nat), mCx G I p R s m args meth c d → nx M ≤ n0 + R.cells → zs M ≤ z0 + R.slots → mAt p l e R s m args below meth c (MQ below (mQc G (v, M)) args s R.cells R.slots (fun q => G.1 ≤ q)) G n0 z0 (pc, ls, st, M))
theorem sn_stuck {F : mF} {I : mI} {pc : Nat} : mSnd F I pc o_stuck := fun _ _ _ _ _ _ _ _ _ => ⟨fun _ h => h.elim, fun _ _ h => h.elim⟩
/-- an operation that goes to one next place, with the memory as it is, the locals as they are -/
theorem sn_push {F : mF} {I : mI} {pc n : Nat} {o : mO} (hi : ∀ C ls st M r, o C ls st M r → ∃ st', r = .inl (n, ls, st', M) ∧ (mOk I.2.2.1 ls st M → (∀ v ∈ st', okV v) ∧
    ∀ (p : Program) (l : Launch) (e : Env) (R : Room) (s : State) (m : MethodId) (args : Array Value) (below : List Frame) (meth : Method) (c : Code) (Q : State → Prop) (G : mG) (d : Nat) (H : Heap) (locs : List Loc) (lm : Array Slot) (cells slots : Nat), mCx G I p R s m args meth c d → va_P G.2.1 vwCl (mPl G M) H → lv_has lm ls.length (mLl G 0 ls) → W p l e R s m args below meth c H locs cells slots Q (F0 m n lm (st'.map (tv G))) → W p l e R s m args below meth c H locs cells slots Q (F0 m pc lm (st.map (tv G))))) : mSnd F I pc o := by
  intro l G d C hC ls st M hok
  refine ⟨fun x' h => ?_, fun v M' h => ?_⟩
  · obtain ⟨st', h1, h2⟩ := hi C ls st M _ h
    cases h1
    obtain ⟨h3, h4⟩ := h2 hok
    refine ⟨⟨hok.1, h3, hok.2.2⟩, Nat.le_refl _, Nat.le_refl _, ?_⟩
    intro p e R s m args below meth c Q n0 z0 hx _ _ hk H locs lm cells slots hP hz hS hl hc hs
    exact h4 p l e R s m args below meth c Q G d H locs lm cells slots hx hP hl (hk H locs lm cells slots hP hz hS hl hc hs)
  · obtain ⟨st', h1, -⟩ := hi C ls st M _ h
    cases h1
theorem sn_iconst {F : mF} {I : mI} {pc n : Nat} {k : Int} (hd : decode I.2.1 pc = .ok (.iconst k, 1)) (hn : pc + 1 = n) (hk : inR k) : mSnd F I pc (o_const (vi k) n) := by
  subst hn
  refine sn_push (n := pc + 1) fun C ls st M r h => ⟨_, h, fun hok => ⟨fun v hv => ?_, ?_⟩⟩
  · rcases List.mem_cons.mp hv with rfl | hv
    · exact hk
    · exact hok.2.1 v hv
  · intro p l e R s m args below meth c Q G d H locs lm cells slots hx hP hl hw
    exact lv_iconst hx.1 hx.2.1 hd rfl hw
theorem sn_bipush {F : mF} {I : mI} {pc n : Nat} {k : Int} (hd : decode I.2.1 pc = .ok (.bipush k, 2)) (hn : pc + 2 = n) (hv : (Int8.ofInt k).toInt32 = Int32.ofInt k) (hk : inR k) : mSnd F I pc (o_const (vi k) n) := by
  subst hn
  refine sn_push (n := pc + 2) fun C ls st M r h => ⟨_, h, fun hok => ⟨fun v hv => ?_, ?_⟩⟩
  · rcases List.mem_cons.mp hv with rfl | hv
    · exact hk
    · exact hok.2.1 v hv
  · intro p l e R s m args below meth c Q G d H locs lm cells slots hx hP hl hw
    exact lv_bipush hx.1 hx.2.1 hd hv hw
theorem sn_sipush {F : mF} {I : mI} {pc n : Nat} {k : Int} (hd : decode I.2.1 pc = .ok (.sipush k, 3)) (hn : pc + 3 = n) (hv : (Int16.ofInt k).toInt32 = Int32.ofInt k) (hk : inR k) : mSnd F I pc (o_const (vi k) n) := by
  subst hn
  refine sn_push (n := pc + 3) fun C ls st M r h => ⟨_, h, fun hok => ⟨fun v hv => ?_, ?_⟩⟩
  · rcases List.mem_cons.mp hv with rfl | hv
    · exact hk
    · exact hok.2.1 v hv
  · intro p l e R s m args below meth c Q G d H locs lm cells slots hx hP hl hw
    exact lv_sipush hx.1 hx.2.1 hd hv hw
theorem sn_lconst {F : mF} {I : mI} {pc n : Nat} {k : Fin 2} (hd : decode I.2.1 pc = .ok (.lconst k, 1)) (hn : pc + 1 = n) : mSnd F I pc (o_const (vl (k : Nat)) n) := by
  subst hn
  refine sn_push (n := pc + 1) fun C ls st M r h => ⟨_, h, fun hok => ⟨fun v hv => ?_, ?_⟩⟩
  · rcases List.mem_cons.mp hv with rfl | hv
    · show inL _
      have := k.isLt
      unfold inL
      omega
    · exact hok.2.1 v hv
  · intro p l e R s m args below meth c Q G d H locs lm cells slots hx hP hl hw
    exact lv_lconst hx.1 hx.2.1 hd Int64.ofInt_eq_ofNat.symm hw
theorem sn_null {F : mF} {I : mI} {pc n : Nat} (hd : decode I.2.1 pc = .ok (.aconst_null, 1)) (hn : pc + 1 = n) : mSnd F I pc (o_const (vr none) n) := by
  subst hn
  refine sn_push (n := pc + 1) fun C ls st M r h => ⟨_, h, fun hok => ⟨fun v hv => ?_, ?_⟩⟩
  · rcases List.mem_cons.mp hv with rfl | hv
    · trivial
    · exact hok.2.1 v hv
  · intro p l e R s m args below meth c Q G d H locs lm cells slots hx hP hl hw
    exact lv_null hx.1 hx.2.1 hd hw
theorem sn_ldc {F : mF} {I : mI} {pc n idx : Nat} {k : Int} (hd : decode I.2.1 pc = .ok (.ldc_w idx, 3)) (hn : pc + 3 = n) (hw : Cond.constant I.1 idx (Int32.ofInt k) ∈ TB) (hk : inR k) : mSnd F I pc (o_const (vi k) n) := by
  subst hn
  refine sn_push (n := pc + 3) fun C ls st M r h => ⟨_, h, fun hok => ⟨fun v hv => ?_, ?_⟩⟩
  · rcases List.mem_cons.mp hv with rfl | hv
    · exact hk
    · exact hok.2.1 v hv
  · intro p l e R s m args below meth c Q G d H locs lm cells slots hx hP hl hw2
    exact lv_ldcw hx.1 hx.2.1 hx.2.2.2.2.2.1 (hx.2.2.2.2.2.2.1 _ hw) hd hw2
theorem sn_ldc2 {F : mF} {I : mI} {pc n idx : Nat} {k : Int} (hd : decode I.2.1 pc = .ok (.ldc2_w idx, 3)) (hn : pc + 3 = n) (hw : Cond.constantLong I.1 idx (Int64.ofInt k) ∈ TB) (hk : inL k) : mSnd F I pc (o_const (vl k) n) := by
  subst hn
  refine sn_push (n := pc + 3) fun C ls st M r h => ⟨_, h, fun hok => ⟨fun v hv => ?_, ?_⟩⟩
  · rcases List.mem_cons.mp hv with rfl | hv
    · exact hk
    · exact hok.2.1 v hv
  · intro p l e R s m args below meth c Q G d H locs lm cells slots hx hP hl hw2
    exact lv_ldc2 hx.1 hx.2.1 hx.2.2.2.2.2.1 (hx.2.2.2.2.2.2.1 _ hw) hd hw2
theorem mem_ls {ls : List mV} {k : Nat} {v : mV} (h : ls[k]? = some v) : v ∈ ls := List.mem_of_getElem? h
theorem sn_iload_n {F : mF} {I : mI} {pc n k : Nat} {j : Fin 4} (hd : decode I.2.1 pc = .ok (.iload_n j, 1)) (hj : (j : Nat) = k) (hn : pc + 1 = n) : mSnd F I pc (o_iload k n) := by
  subst hn
  refine sn_push (n := pc + 1) fun C ls st M r h => ?_
  obtain ⟨z, h1, h2⟩ := h
  refine ⟨_, h2, fun hok => ⟨fun v hv => ?_, ?_⟩⟩
  · rcases List.mem_cons.mp hv with rfl | hv
    · exact (hok.2.2.1 _ (mem_ls h1)).resolve_left (fun q => by cases q)
    · exact hok.2.1 v hv
  · intro p l e R s m args below meth c Q G d H locs lm cells slots hx hP hl hw
    exact lv_iload_n hx.1 hx.2.1 hd hj (mLl_at hl h1) hw
theorem sn_iload {F : mF} {I : mI} {pc n k : Nat} (hd : decode I.2.1 pc = .ok (.iload k, 2)) (hn : pc + 2 = n) : mSnd F I pc (o_iload k n) := by
  subst hn
  refine sn_push (n := pc + 2) fun C ls st M r h => ?_
  obtain ⟨z, h1, h2⟩ := h
  refine ⟨_, h2, fun hok => ⟨fun v hv => ?_, ?_⟩⟩
  · rcases List.mem_cons.mp hv with rfl | hv
    · exact (hok.2.2.1 _ (mem_ls h1)).resolve_left (fun q => by cases q)
    · exact hok.2.1 v hv
  · intro p l e R s m args below meth c Q G d H locs lm cells slots hx hP hl hw
    exact lv_iload hx.1 hx.2.1 hd (mLl_at hl h1) hw
theorem sn_lload_n {F : mF} {I : mI} {pc n k : Nat} {j : Fin 4} (hd : decode I.2.1 pc = .ok (.lload_n j, 1)) (hj : (j : Nat) = k) (hn : pc + 1 = n) : mSnd F I pc (o_lload k n) := by
  subst hn
  refine sn_push (n := pc + 1) fun C ls st M r h => ?_
  obtain ⟨z, h1, h2⟩ := h
  refine ⟨_, h2, fun hok => ⟨fun v hv => ?_, ?_⟩⟩
  · rcases List.mem_cons.mp hv with rfl | hv
    · exact (hok.2.2.1 _ (mem_ls h1)).resolve_left (fun q => by cases q)
    · exact hok.2.1 v hv
  · intro p l e R s m args below meth c Q G d H locs lm cells slots hx hP hl hw
    exact lv_lload_n hx.1 hx.2.1 hd hj (mLl_at hl h1) hw
theorem sn_lload {F : mF} {I : mI} {pc n k : Nat} (hd : decode I.2.1 pc = .ok (.lload k, 2)) (hn : pc + 2 = n) : mSnd F I pc (o_lload k n) := by
  subst hn
  refine sn_push (n := pc + 2) fun C ls st M r h => ?_
  obtain ⟨z, h1, h2⟩ := h
  refine ⟨_, h2, fun hok => ⟨fun v hv => ?_, ?_⟩⟩
  · rcases List.mem_cons.mp hv with rfl | hv
    · exact (hok.2.2.1 _ (mem_ls h1)).resolve_left (fun q => by cases q)
    · exact hok.2.1 v hv
  · intro p l e R s m args below meth c Q G d H locs lm cells slots hx hP hl hw
    exact lv_lload hx.1 hx.2.1 hd (mLl_at hl h1) hw
theorem sn_aload_n {F : mF} {I : mI} {pc n k : Nat} {j : Fin 4} (hd : decode I.2.1 pc = .ok (.aload_n j, 1)) (hj : (j : Nat) = k) (hn : pc + 1 = n) : mSnd F I pc (o_aload k n) := by
  subst hn
  refine sn_push (n := pc + 1) fun C ls st M r h => ?_
  obtain ⟨o, h1, h2⟩ := h
  refine ⟨_, h2, fun hok => ⟨fun v hv => ?_, ?_⟩⟩
  · rcases List.mem_cons.mp hv with rfl | hv
    · trivial
    · exact hok.2.1 v hv
  · intro p l e R s m args below meth c Q G d H locs lm cells slots hx hP hl hw
    cases o with
    | none => exact lv_aload_nN hx.1 hx.2.1 hd hj (mLl_at hl h1) hw
    | some a => exact lv_aload_n hx.1 hx.2.1 hd hj (mLl_at hl h1) hw
theorem sn_aload {F : mF} {I : mI} {pc n k : Nat} (hd : decode I.2.1 pc = .ok (.aload k, 2)) (hn : pc + 2 = n) : mSnd F I pc (o_aload k n) := by
  subst hn
  refine sn_push (n := pc + 2) fun C ls st M r h => ?_
  obtain ⟨o, h1, h2⟩ := h
  refine ⟨_, h2, fun hok => ⟨fun v hv => ?_, ?_⟩⟩
  · rcases List.mem_cons.mp hv with rfl | hv
    · trivial
    · exact hok.2.1 v hv
  · intro p l e R s m args below meth c Q G d H locs lm cells slots hx hP hl hw
    cases o with
    | none => exact lv_aloadN hx.1 hx.2.1 hd (mLl_at hl h1) hw
    | some a => exact lv_aload hx.1 hx.2.1 hd (mLl_at hl h1) hw
/-- two ints into one -/
theorem sn_bin {F : mF} {I : mI} {pc n : Nat} {f : Int32 → Int32 → Int32} (hi : ∀ (p : Program) (l : Launch) (e : Env) (R : Room) (s : State) (m : MethodId) (args : Array Value) (below : List Frame) (meth : Method) (c : Code) (Q : State → Prop) (H : Heap) (locs : List Loc) (lm : Array Slot) (cells slots : Nat) (x y : Int32) (rest : List Value), p.tables.exec = Jvm.exec → c.code = I.2.1 → W p l e R s m args below meth c H locs cells slots Q (F0 m n lm (.int (f x y) :: rest)) → W p l e R s m args below meth c H locs cells slots Q (F0 m pc lm (.int y :: .int x :: rest))) : mSnd F I pc (o_bin f n) := by
  refine sn_push (n := n) fun C ls st M r h => ?_
  obtain ⟨x, y, st', rfl, h2⟩ := h
  refine ⟨_, h2, fun hok => ⟨fun v hv => ?_, ?_⟩⟩
  · rcases List.mem_cons.mp hv with rfl | hv
    · exact inR_toInt _
    · exact hok.2.1 v (List.mem_cons_of_mem _ (List.mem_cons_of_mem _ hv))
  · intro p l e R s m args below meth c Q G d H locs lm cells slots hx hP hl hw
    refine hi p l e R s m args below meth c Q H locs lm cells slots (Int32.ofInt x) (Int32.ofInt y) (st'.map (tv G)) hx.1 hx.2.1 ?_
    have hw2 : W p l e R s m args below meth c H locs cells slots Q (F0 m n lm (.int (Int32.ofInt (f (Int32.ofInt x) (Int32.ofInt y)).toInt) :: st'.map (tv G))) := hw
    rw [o32] at hw2
    exact hw2
theorem sn_iadd {F : mF} {I : mI} {pc n : Nat} (hd : decode I.2.1 pc = .ok (.iadd, 1)) (hn : pc + 1 = n) : mSnd F I pc (o_bin (fun x y => x + y) n) := by
  subst hn
  exact sn_bin fun p l e R s m args below meth c Q H locs lm cells slots x y rest hx hb hw => lv_iadd hx hb hd hw
theorem sn_isub {F : mF} {I : mI} {pc n : Nat} (hd : decode I.2.1 pc = .ok (.isub, 1)) (hn : pc + 1 = n) : mSnd F I pc (o_bin (fun x y => x - y) n) := by
  subst hn
  exact sn_bin fun p l e R s m args below meth c Q H locs lm cells slots x y rest hx hb hw => lv_isub hx hb hd hw
theorem sn_imul {F : mF} {I : mI} {pc n : Nat} (hd : decode I.2.1 pc = .ok (.imul, 1)) (hn : pc + 1 = n) : mSnd F I pc (o_bin (fun x y => x * y) n) := by
  subst hn
  exact sn_bin fun p l e R s m args below meth c Q H locs lm cells slots x y rest hx hb hw => lv_imul hx hb hd hw
theorem sn_iand {F : mF} {I : mI} {pc n : Nat} (hd : decode I.2.1 pc = .ok (.iand, 1)) (hn : pc + 1 = n) : mSnd F I pc (o_bin (fun x y => x &&& y) n) := by
  subst hn
  exact sn_bin fun p l e R s m args below meth c Q H locs lm cells slots x y rest hx hb hw => lv_iand hx hb hd hw
theorem sn_ior {F : mF} {I : mI} {pc n : Nat} (hd : decode I.2.1 pc = .ok (.ior, 1)) (hn : pc + 1 = n) : mSnd F I pc (o_bin (fun x y => x ||| y) n) := by
  subst hn
  exact sn_bin fun p l e R s m args below meth c Q H locs lm cells slots x y rest hx hb hw => lv_ior hx hb hd hw
theorem sn_ixor {F : mF} {I : mI} {pc n : Nat} (hd : decode I.2.1 pc = .ok (.ixor, 1)) (hn : pc + 1 = n) : mSnd F I pc (o_bin (fun x y => x ^^^ y) n) := by
  subst hn
  exact sn_bin fun p l e R s m args below meth c Q H locs lm cells slots x y rest hx hb hw => lv_ixor hx hb hd hw
theorem sn_ishl {F : mF} {I : mI} {pc n : Nat} (hd : decode I.2.1 pc = .ok (.ishl, 1)) (hn : pc + 1 = n) : mSnd F I pc (o_bin (fun x y => x <<< (y &&& 31)) n) := by
  subst hn
  exact sn_bin fun p l e R s m args below meth c Q H locs lm cells slots x y rest hx hb hw => lv_ishl hx hb hd hw
theorem sn_ishr {F : mF} {I : mI} {pc n : Nat} (hd : decode I.2.1 pc = .ok (.ishr, 1)) (hn : pc + 1 = n) : mSnd F I pc (o_bin (fun x y => x >>> (y &&& 31)) n) := by
  subst hn
  exact sn_bin fun p l e R s m args below meth c Q H locs lm cells slots x y rest hx hb hw => lv_ishr hx hb hd hw
theorem sn_iushr {F : mF} {I : mI} {pc n : Nat} (hd : decode I.2.1 pc = .ok (.iushr, 1)) (hn : pc + 1 = n) : mSnd F I pc (o_bin (fun x y => (x.toUInt32 >>> (y.toUInt32 &&& Int32.toUInt32 31)).toInt32) n) := by
  subst hn
  exact sn_bin fun p l e R s m args below meth c Q H locs lm cells slots x y rest hx hb hw => lv_iushr hx hb hd rfl hw
theorem sn_ineg {F : mF} {I : mI} {pc n : Nat} (hd : decode I.2.1 pc = .ok (.ineg, 1)) (hn : pc + 1 = n) : mSnd F I pc (o_un (fun x => wr (-x)) n) := by
  subst hn
  refine sn_push (n := pc + 1) fun C ls st M r h => ?_
  obtain ⟨x, st', rfl, h2⟩ := h
  refine ⟨_, h2, fun hok => ⟨fun v hv => ?_, ?_⟩⟩
  · rcases List.mem_cons.mp hv with rfl | hv
    · exact inR_wr _
    · exact hok.2.1 v (List.mem_cons_of_mem _ hv)
  · intro p l e R s m args below meth c Q G d H locs lm cells slots hx hP hl hw
    refine lv_ineg hx.1 hx.2.1 hd ?_
    have hw2 : W p l e R s m args below meth c H locs cells slots Q (F0 m (pc + 1) lm (.int (Int32.ofInt (Int32.ofInt (-x)).toInt) :: st'.map (tv G))) := hw
    rw [o32, Int32.ofInt_neg] at hw2
    exact hw2
theorem sn_i2b {F : mF} {I : mI} {pc n : Nat} (hd : decode I.2.1 pc = .ok (.i2b, 1)) (hn : pc + 1 = n) : mSnd F I pc (o_un wb n) := by
  subst hn
  refine sn_push (n := pc + 1) fun C ls st M r h => ?_
  obtain ⟨x, st', rfl, h2⟩ := h
  refine ⟨_, h2, fun hok => ⟨fun v hv => ?_, ?_⟩⟩
  · rcases List.mem_cons.mp hv with rfl | hv
    · exact inR_wb _
    · exact hok.2.1 v (List.mem_cons_of_mem _ hv)
  · intro p l e R s m args below meth c Q G d H locs lm cells slots hx hP hl hw
    refine lv_i2b hx.1 hx.2.1 hd (v := Int32.ofInt (wb x)) ?_ hw
    rw [Int32.toInt8_ofInt]
    exact (Int32.ofInt_int8ToInt _).symm
theorem sn_i2l {F : mF} {I : mI} {pc n : Nat} (hd : decode I.2.1 pc = .ok (.i2l, 1)) (hn : pc + 1 = n) : mSnd F I pc (o_i2l n) := by
  subst hn
  refine sn_push (n := pc + 1) fun C ls st M r h => ?_
  obtain ⟨x, st', rfl, h2⟩ := h
  refine ⟨_, h2, fun hok => ?_⟩
  have hxr : inR x := hok.2.1 _ List.mem_cons_self
  refine ⟨fun v hv => ?_, ?_⟩
  · rcases List.mem_cons.mp hv with rfl | hv
    · show inL x
      unfold inR at hxr
      unfold inL
      omega
    · exact hok.2.1 v (List.mem_cons_of_mem _ hv)
  · intro p l e R s m args below meth c Q G d H locs lm cells slots hx hP hl hw
    refine lv_i2l hx.1 hx.2.1 hd (v := Int64.ofInt x) ?_ hw
    have h1 : Int32.minValue.toInt = -2147483648 := rfl
    have h2 : Int32.maxValue.toInt = 2147483647 := rfl
    unfold inR at hxr
    exact Int32.toInt64_ofInt (by omega) (by omega)
theorem sn_lbin {F : mF} {I : mI} {pc n : Nat} {f : Int64 → Int64 → Int64} (hi : ∀ (p : Program) (l : Launch) (e : Env) (R : Room) (s : State) (m : MethodId) (args : Array Value) (below : List Frame) (meth : Method) (c : Code) (Q : State → Prop) (H : Heap) (locs : List Loc) (lm : Array Slot) (cells slots : Nat) (x y : Int64) (rest : List Value), p.tables.exec = Jvm.exec → c.code = I.2.1 → W p l e R s m args below meth c H locs cells slots Q (F0 m n lm (.long (f x y) :: rest)) → W p l e R s m args below meth c H locs cells slots Q (F0 m pc lm (.long y :: .long x :: rest))) : mSnd F I pc (o_lbin f n) := by
  refine sn_push (n := n) fun C ls st M r h => ?_
  obtain ⟨x, y, st', rfl, h2⟩ := h
  refine ⟨_, h2, fun hok => ⟨fun v hv => ?_, ?_⟩⟩
  · rcases List.mem_cons.mp hv with rfl | hv
    · exact inL_toInt _
    · exact hok.2.1 v (List.mem_cons_of_mem _ (List.mem_cons_of_mem _ hv))
  · intro p l e R s m args below meth c Q G d H locs lm cells slots hx hP hl hw
    refine hi p l e R s m args below meth c Q H locs lm cells slots (Int64.ofInt x) (Int64.ofInt y) (st'.map (tv G)) hx.1 hx.2.1 ?_
    have hw2 : W p l e R s m args below meth c H locs cells slots Q (F0 m n lm (.long (Int64.ofInt (f (Int64.ofInt x) (Int64.ofInt y)).toInt) :: st'.map (tv G))) := hw
    rw [Int64.ofInt_toInt] at hw2
    exact hw2
theorem sn_ladd {F : mF} {I : mI} {pc n : Nat} (hd : decode I.2.1 pc = .ok (.ladd, 1)) (hn : pc + 1 = n) : mSnd F I pc (o_lbin (fun x y => x + y) n) := by
  subst hn
  exact sn_lbin fun p l e R s m args below meth c Q H locs lm cells slots x y rest hx hb hw => lv_ladd hx hb hd hw
theorem sn_lmul {F : mF} {I : mI} {pc n : Nat} (hd : decode I.2.1 pc = .ok (.lmul, 1)) (hn : pc + 1 = n) : mSnd F I pc (o_lbin (fun x y => x * y) n) := by
  subst hn
  exact sn_lbin fun p l e R s m args below meth c Q H locs lm cells slots x y rest hx hb hw => lv_lmul hx hb hd hw
theorem i64_lt {a b : Int} (ha : inL a) (hb : inL b) : Int64.ofInt a < Int64.ofInt b ↔ a < b := by rw [Int64.lt_iff_toInt_lt, i64 ha, i64 hb]
theorem i64_eq {a b : Int} (ha : inL a) (hb : inL b) : Int64.ofInt a = Int64.ofInt b ↔ a = b := by rw [← Int64.toInt_inj, i64 ha, i64 hb]
theorem sn_lcmp {F : mF} {I : mI} {pc n : Nat} (hd : decode I.2.1 pc = .ok (.lcmp, 1)) (hn : pc + 1 = n) : mSnd F I pc (o_lcmp n) := by
  subst hn
  refine sn_push (n := pc + 1) fun C ls st M r h => ?_
  obtain ⟨x, y, st', rfl, h2⟩ := h
  refine ⟨_, h2, fun hok => ?_⟩
  have hy : inL y := hok.2.1 _ List.mem_cons_self
  have hxl : inL x := hok.2.1 _ (List.mem_cons_of_mem _ List.mem_cons_self)
  refine ⟨fun v hv => ?_, ?_⟩
  · rcases List.mem_cons.mp hv with rfl | hv
    · show inR _
      unfold inR
      split
      · omega
      · split <;> omega
    · exact hok.2.1 v (List.mem_cons_of_mem _ (List.mem_cons_of_mem _ hv))
  · intro p l e R s m args below meth c Q G d H locs lm cells slots hx hP hl hw
    refine W.lcmp hx.1 hx.2.1 hd ?_
    have hw2 : W p l e R s m args below meth c H locs cells slots Q (F0 m (pc + 1) lm (.int (Int32.ofInt (if y < x then 1 else if x = y then 0 else -1)) :: st'.map (tv G))) := hw
    have he : lg_cmp (Int64.ofInt x) (Int64.ofInt y) = Int32.ofInt (if y < x then 1 else if x = y then 0 else -1) := by
      unfold lg_cmp
      by_cases h1 : y < x
      · rw [if_pos ((i64_lt hy hxl).mpr h1), if_pos h1]; decide
      · rw [if_neg (fun q => h1 ((i64_lt hy hxl).mp q)), if_neg h1]
        by_cases h3 : x = y
        · rw [if_pos ((i64_eq hxl hy).mpr h3), if_pos h3]; decide
        · rw [if_neg (fun q => h3 ((i64_eq hxl hy).mp q)), if_neg h3]; decide
    show W p l e R s m args below meth c H locs cells slots Q (F0 m (pc + 1) lm (.int (lg_cmp (Int64.ofInt x) (Int64.ofInt y)) :: st'.map (tv G)))
    rw [he]
    exact hw2
theorem cat1 {G : mG} {v : mV} (h : ∀ z, v ≠ vl z) : (tv G v).category = 1 := by
  rcases v with _ | z | z | _ | a
  · rfl
  · rfl
  · exact absurd rfl (h z)
  · rfl
  · rfl
theorem sn_dup {F : mF} {I : mI} {pc n : Nat} (hd : decode I.2.1 pc = .ok (.dup, 1)) (hn : pc + 1 = n) : mSnd F I pc (o_dup n) := by
  subst hn
  refine sn_push (n := pc + 1) fun C ls st M r h => ?_
  obtain ⟨w, st', rfl, h1, h2⟩ := h
  refine ⟨_, h2, fun hok => ⟨fun v hv => ?_, ?_⟩⟩
  · rcases List.mem_cons.mp hv with rfl | hv
    · exact hok.2.1 _ List.mem_cons_self
    · exact hok.2.1 v hv
  · intro p l e R s m args below meth c Q G d H locs lm cells slots hx hP hl hw
    exact lv_dup hx.1 hx.2.1 hd (cat1 h1) hw
theorem sn_dup2 {F : mF} {I : mI} {pc n : Nat} (hd : decode I.2.1 pc = .ok (.dup2, 1)) (hn : pc + 1 = n) : mSnd F I pc (o_dup2 n) := by
  subst hn
  refine sn_push (n := pc + 1) fun C ls st M r h => ?_
  obtain ⟨w1, w2, st', rfl, h1, h2, h3⟩ := h
  refine ⟨_, h3, fun hok => ⟨fun v hv => ?_, ?_⟩⟩
  · rcases List.mem_cons.mp hv with rfl | hv
    · exact hok.2.1 _ List.mem_cons_self
    · rcases List.mem_cons.mp hv with rfl | hv
      · exact hok.2.1 _ (List.mem_cons_of_mem _ List.mem_cons_self)
      · exact hok.2.1 v hv
  · intro p l e R s m args below meth c Q G d H locs lm cells slots hx hP hl hw
    exact lv_dup2_11 hx.1 hx.2.1 hd (cat1 h1) (cat1 h2) hw
theorem sn_goto {F : mF} {I : mI} {pc n : Nat} {off : Int} (hd : decode I.2.1 pc = .ok (.goto off, 3)) (ht : (pc : Int) + off = (n : Int)) : mSnd F I pc (o_goto n) := by
  refine sn_push (n := n) fun C ls st M r h => ⟨_, h, fun hok => ⟨hok.2.1, ?_⟩⟩
  intro p l e R s m args below meth c Q G d H locs lm cells slots hx hP hl hw
  exact lv_goto hx.1 hx.2.1 hd ht hw
