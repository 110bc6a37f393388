/-! ===== soundness: locals, branches, memory ===== -/
theorem sn_gen {F : mF} {I : mI} {pc : Nat} {o : mO} (hi : ∀ C ls st M r, o C ls st M r → ∃ n ls' st', r = .inl (n, ls', st', M) ∧ (mOk I.2.2.1 ls st M → (∀ v ∈ st', okV v) ∧ (∀ v ∈ ls', v = none ∨ okV v) ∧ ls'.length = ls.length ∧
    ∀ (p : Program) (l : Launch) (e : Env) (R : Room) (s : State) (m : MethodId) (args : Array Value) (below : List Frame) (meth : Method) (c : Code) (Q : State → Prop) (G : mG) (d : Nat) (H : Heap) (locs : List Loc) (lm : Array Slot) (cells slots : Nat), mCx G I p R s m args meth c d → lv_has lm ls.length (mLl G 0 ls) → (∀ lm' : Array Slot, lv_has lm' ls'.length (mLl G 0 ls') → W p l e R s m args below meth c H locs cells slots Q (F0 m n lm' (st'.map (tv G)))) → W p l e R s m args below meth c H locs cells slots Q (F0 m pc lm (st.map (tv G))))) : mSnd F I pc o := by
  intro l G d C hC ls st M hok
  refine ⟨fun x' h => ?_, fun v M' h => ?_⟩
  · obtain ⟨n, ls', st', h1, h2⟩ := hi C ls st M _ h
    cases h1
    obtain ⟨h3, h4, h5, h6⟩ := h2 hok
    refine ⟨⟨hok.1, h3, h4, h5.trans hok.2.2.2⟩, Nat.le_refl _, Nat.le_refl _, ?_⟩
    intro p e R s m args below meth c Q n0 z0 hx _ _ hk H locs lm cells slots hP hz hS hl hc hs
    exact h6 p l e R s m args below meth c Q G d H locs lm cells slots hx hl (fun lm' hl' => hk H locs lm' cells slots hP hz hS hl' hc hs)
  · obtain ⟨n, ls', st', h1, -⟩ := hi C ls st M _ h
    cases h1
theorem ok_set {ls : List mV} {k : Nat} {v : mV} (h : ∀ w ∈ ls, w = none ∨ okV w) (hv : v = none ∨ okV v) : ∀ w ∈ ls.set k v, w = none ∨ okV w := by
  intro w hw
  rcases List.mem_or_eq_of_mem_set hw with h1 | h1
  · exact h w h1
  · rw [h1]; exact hv
theorem sn_istore_n {F : mF} {I : mI} {pc n k : Nat} {j : Fin 4} (hd : decode I.2.1 pc = .ok (.istore_n j, 1)) (hj : (j : Nat) = k) (hn : pc + 1 = n) : mSnd F I pc (o_istore k n) := by
  subst hn
  refine sn_gen fun C ls st M r h => ?_
  obtain ⟨z, st', rfl, h1, h2, h3⟩ := h
  refine ⟨_, _, _, h3, fun hok => ⟨fun v hv => hok.2.1 v (List.mem_cons_of_mem _ hv), ok_set hok.2.2.1 (Or.inr (hok.2.1 (vi z) List.mem_cons_self)), List.length_set, ?_⟩⟩
  intro p l e R s m args below meth c Q G d H locs lm cells slots hx hl hw
  exact lv_istore_n hx.1 hx.2.1 hd hj hl h1 rfl (fun lm' hl' => hw lm' (by rw [List.length_set]; exact mLl_set (v := vi z) hl' (fun q => by cases q) h1 h2))
theorem sn_istore {F : mF} {I : mI} {pc n k : Nat} (hd : decode I.2.1 pc = .ok (.istore k, 2)) (hn : pc + 2 = n) : mSnd F I pc (o_istore k n) := by
  subst hn
  refine sn_gen fun C ls st M r h => ?_
  obtain ⟨z, st', rfl, h1, h2, h3⟩ := h
  refine ⟨_, _, _, h3, fun hok => ⟨fun v hv => hok.2.1 v (List.mem_cons_of_mem _ hv), ok_set hok.2.2.1 (Or.inr (hok.2.1 (vi z) List.mem_cons_self)), List.length_set, ?_⟩⟩
  intro p l e R s m args below meth c Q G d H locs lm cells slots hx hl hw
  exact lv_istore hx.1 hx.2.1 hd hl h1 rfl (fun lm' hl' => hw lm' (by rw [List.length_set]; exact mLl_set (v := vi z) hl' (fun q => by cases q) h1 h2))
theorem sn_astore_n {F : mF} {I : mI} {pc n k : Nat} {j : Fin 4} (hd : decode I.2.1 pc = .ok (.astore_n j, 1)) (hj : (j : Nat) = k) (hn : pc + 1 = n) : mSnd F I pc (o_astore k n) := by
  subst hn
  refine sn_gen fun C ls st M r h => ?_
  obtain ⟨o, st', rfl, h1, h2, h3⟩ := h
  refine ⟨_, _, _, h3, fun hok => ⟨fun v hv => hok.2.1 v (List.mem_cons_of_mem _ hv), ok_set hok.2.2.1 (Or.inr trivial), List.length_set, ?_⟩⟩
  intro p l e R s m args below meth c Q G d H locs lm cells slots hx hl hw
  cases o with
  | none => exact lv_astore_nN hx.1 hx.2.1 hd hj hl h1 rfl (fun lm' hl' => hw lm' (by rw [List.length_set]; exact mLl_set (v := vr none) hl' (fun q => by cases q) h1 h2))
  | some a => exact lv_astore_n hx.1 hx.2.1 hd hj hl h1 rfl (fun lm' hl' => hw lm' (by rw [List.length_set]; exact mLl_set (v := vr (some a)) hl' (fun q => by cases q) h1 h2))
theorem sn_astore {F : mF} {I : mI} {pc n k : Nat} (hd : decode I.2.1 pc = .ok (.astore k, 2)) (hn : pc + 2 = n) : mSnd F I pc (o_astore k n) := by
  subst hn
  refine sn_gen fun C ls st M r h => ?_
  obtain ⟨o, st', rfl, h1, h2, h3⟩ := h
  refine ⟨_, _, _, h3, fun hok => ⟨fun v hv => hok.2.1 v (List.mem_cons_of_mem _ hv), ok_set hok.2.2.1 (Or.inr trivial), List.length_set, ?_⟩⟩
  intro p l e R s m args below meth c Q G d H locs lm cells slots hx hl hw
  cases o with
  | none => exact lv_astoreN hx.1 hx.2.1 hd hl h1 rfl (fun lm' hl' => hw lm' (by rw [List.length_set]; exact mLl_set (v := vr none) hl' (fun q => by cases q) h1 h2))
  | some a => exact lv_astore hx.1 hx.2.1 hd hl h1 rfl (fun lm' hl' => hw lm' (by rw [List.length_set]; exact mLl_set (v := vr (some a)) hl' (fun q => by cases q) h1 h2))
theorem sn_lstore {F : mF} {I : mI} {pc n k : Nat} (hd : decode I.2.1 pc = .ok (.lstore k, 2)) (hn : pc + 2 = n) : mSnd F I pc (o_lstore k n) := by
  subst hn
  refine sn_gen fun C ls st M r h => ?_
  obtain ⟨z, st', rfl, h1, h2, h3⟩ := h
  refine ⟨_, _, _, h3, fun hok => ⟨fun v hv => hok.2.1 v (List.mem_cons_of_mem _ hv), ok_set (ok_set hok.2.2.1 (Or.inr (hok.2.1 (vl z) List.mem_cons_self))) (Or.inl rfl), by rw [List.length_set, List.length_set], ?_⟩⟩
  intro p l e R s m args below meth c Q G d H locs lm cells slots hx hl hw
  exact lv_lstore hx.1 hx.2.1 hd hl h1 rfl (fun lm' hl' => hw lm' (by rw [List.length_set, List.length_set]; exact mLl_set2 (v := vl z) hl' (fun q => by cases q) h1 h2))
theorem sn_iinc {F : mF} {I : mI} {pc n k : Nat} {dz : Int} (hd : decode I.2.1 pc = .ok (.iinc k dz, 3)) (hn : pc + 3 = n) : mSnd F I pc (o_iinc k dz n) := by
  subst hn
  refine sn_gen fun C ls st M r h => ?_
  obtain ⟨z, h1, h2, h3⟩ := h
  have hk : k < ls.length := (List.getElem?_eq_some_iff.mp h1).1
  refine ⟨_, _, _, h3, fun hok => ⟨hok.2.1, ok_set hok.2.2.1 (Or.inr (inR_wr _)), List.length_set, ?_⟩⟩
  intro p l e R s m args below meth c Q G d H locs lm cells slots hx hl hw
  have hm : (k, tv G (vi z)) ∈ mLl G 0 ls := (mLl_mem ls 0 _).mpr ⟨k, .inl z, h1, by simp [vi]⟩
  obtain ⟨i, hi⟩ := List.getElem?_of_mem hm
  exact lv_iinc (v := Int32.ofInt (wr (z + dz))) hx.1 hx.2.1 hd hl (k := i) (x := Int32.ofInt z) hi (by rw [wr, o32, Int32.ofInt_add]) hk rfl (fun lm' hl' => hw lm' (by rw [List.length_set]; exact mLl_set (v := vi (wr (z + dz))) hl' (fun q => by cases q) hk h2))
/-! branches -/
theorem sn_ifeq {F : mF} {I : mI} {pc t n : Nat} {off : Int} (hd : decode I.2.1 pc = .ok (.ifCond .eq off, 3)) (ht : (pc : Int) + off = (t : Int)) (hn : pc + 3 = n) : mSnd F I pc (o_if 0 t n) := by
  subst hn
  refine sn_gen fun C ls st M r h => ?_
  obtain ⟨x, st', rfl, (⟨h1, h2⟩ | ⟨h1, h2⟩)⟩ := h
  all_goals
    refine ⟨_, _, _, h2, fun hok => ⟨fun v hv => hok.2.1 v (List.mem_cons_of_mem _ hv), hok.2.2.1, rfl, ?_⟩⟩
    intro p l e R s m args below meth c Q G d H locs lm cells slots hx hl hw
    have hxr : inR x := hok.2.1 (vi x) List.mem_cons_self
    have he : Int32.ofInt x = 0 ↔ x = 0 := by rw [i32_z]; exact i32_eq hxr inR_0
    exact lv_if_eq hx.1 hx.2.1 hd ht (fun q => by first | exact hw lm hl | exact absurd (he.mp q) h1) (fun q => by first | exact hw lm hl | exact absurd (he.mpr h1) q)
theorem sn_ifne {F : mF} {I : mI} {pc t n : Nat} {off : Int} (hd : decode I.2.1 pc = .ok (.ifCond .ne off, 3)) (ht : (pc : Int) + off = (t : Int)) (hn : pc + 3 = n) : mSnd F I pc (o_if 1 t n) := by
  subst hn
  refine sn_gen fun C ls st M r h => ?_
  obtain ⟨x, st', rfl, (⟨h1, h2⟩ | ⟨h1, h2⟩)⟩ := h
  · refine ⟨_, _, _, h2, fun hok => ⟨fun v hv => hok.2.1 v (List.mem_cons_of_mem _ hv), hok.2.2.1, rfl, ?_⟩⟩
    intro p l e R s m args below meth c Q G d H locs lm cells slots hx hl hw
    have hxr : inR x := hok.2.1 (vi x) List.mem_cons_self
    have he : Int32.ofInt x = 0 ↔ x = 0 := by rw [i32_z]; exact i32_eq hxr inR_0
    exact lv_if_ne hx.1 hx.2.1 hd ht (fun _ => hw lm hl) (fun q => absurd (he.mp q) h1)
  · refine ⟨_, _, _, h2, fun hok => ⟨fun v hv => hok.2.1 v (List.mem_cons_of_mem _ hv), hok.2.2.1, rfl, ?_⟩⟩
    intro p l e R s m args below meth c Q G d H locs lm cells slots hx hl hw
    have hxr : inR x := hok.2.1 (vi x) List.mem_cons_self
    have he : Int32.ofInt x = 0 ↔ x = 0 := by rw [i32_z]; exact i32_eq hxr inR_0
    exact lv_if_ne hx.1 hx.2.1 hd ht (fun q => absurd (fun w => q (he.mpr w)) h1) (fun _ => hw lm hl)
theorem sn_iflt {F : mF} {I : mI} {pc t n : Nat} {off : Int} (hd : decode I.2.1 pc = .ok (.ifCond .lt off, 3)) (ht : (pc : Int) + off = (t : Int)) (hn : pc + 3 = n) : mSnd F I pc (o_if 2 t n) := by
  subst hn
  refine sn_gen fun C ls st M r h => ?_
  obtain ⟨x, st', rfl, (⟨h1, h2⟩ | ⟨h1, h2⟩)⟩ := h
  all_goals
    refine ⟨_, _, _, h2, fun hok => ⟨fun v hv => hok.2.1 v (List.mem_cons_of_mem _ hv), hok.2.2.1, rfl, ?_⟩⟩
    intro p l e R s m args below meth c Q G d H locs lm cells slots hx hl hw
    have hxr : inR x := hok.2.1 (vi x) List.mem_cons_self
    have he : Int32.ofInt x < 0 ↔ x < 0 := by rw [i32_z]; exact i32_lt hxr inR_0
    exact lv_if_lt hx.1 hx.2.1 hd ht (fun q => by first | exact hw lm hl | exact absurd (he.mp q) h1) (fun q => by first | exact hw lm hl | exact absurd (he.mpr h1) q)
theorem sn_ifge {F : mF} {I : mI} {pc t n : Nat} {off : Int} (hd : decode I.2.1 pc = .ok (.ifCond .ge off, 3)) (ht : (pc : Int) + off = (t : Int)) (hn : pc + 3 = n) : mSnd F I pc (o_if 3 t n) := by
  subst hn
  refine sn_gen fun C ls st M r h => ?_
  obtain ⟨x, st', rfl, (⟨h1, h2⟩ | ⟨h1, h2⟩)⟩ := h
  all_goals
    refine ⟨_, _, _, h2, fun hok => ⟨fun v hv => hok.2.1 v (List.mem_cons_of_mem _ hv), hok.2.2.1, rfl, ?_⟩⟩
    intro p l e R s m args below meth c Q G d H locs lm cells slots hx hl hw
    have hxr : inR x := hok.2.1 (vi x) List.mem_cons_self
    have he : 0 ≤ Int32.ofInt x ↔ 0 ≤ x := by rw [i32_z]; exact i32_le inR_0 hxr
    exact lv_if_ge hx.1 hx.2.1 hd ht (fun q => by first | exact hw lm hl | exact absurd (he.mp q) h1) (fun q => by first | exact hw lm hl | exact absurd (he.mpr h1) q)
theorem sn_ifgt {F : mF} {I : mI} {pc t n : Nat} {off : Int} (hd : decode I.2.1 pc = .ok (.ifCond .gt off, 3)) (ht : (pc : Int) + off = (t : Int)) (hn : pc + 3 = n) : mSnd F I pc (o_if 4 t n) := by
  subst hn
  refine sn_gen fun C ls st M r h => ?_
  obtain ⟨x, st', rfl, (⟨h1, h2⟩ | ⟨h1, h2⟩)⟩ := h
  all_goals
    refine ⟨_, _, _, h2, fun hok => ⟨fun v hv => hok.2.1 v (List.mem_cons_of_mem _ hv), hok.2.2.1, rfl, ?_⟩⟩
    intro p l e R s m args below meth c Q G d H locs lm cells slots hx hl hw
    have hxr : inR x := hok.2.1 (vi x) List.mem_cons_self
    have he : 0 < Int32.ofInt x ↔ 0 < x := by rw [i32_z]; exact i32_lt inR_0 hxr
    exact lv_if_gt hx.1 hx.2.1 hd ht (fun q => by first | exact hw lm hl | exact absurd (he.mp q) h1) (fun q => by first | exact hw lm hl | exact absurd (he.mpr h1) q)
theorem sn_ifle {F : mF} {I : mI} {pc t n : Nat} {off : Int} (hd : decode I.2.1 pc = .ok (.ifCond .le off, 3)) (ht : (pc : Int) + off = (t : Int)) (hn : pc + 3 = n) : mSnd F I pc (o_if 5 t n) := by
  subst hn
  refine sn_gen fun C ls st M r h => ?_
  obtain ⟨x, st', rfl, (⟨h1, h2⟩ | ⟨h1, h2⟩)⟩ := h
  all_goals
    refine ⟨_, _, _, h2, fun hok => ⟨fun v hv => hok.2.1 v (List.mem_cons_of_mem _ hv), hok.2.2.1, rfl, ?_⟩⟩
    intro p l e R s m args below meth c Q G d H locs lm cells slots hx hl hw
    have hxr : inR x := hok.2.1 (vi x) List.mem_cons_self
    have he : Int32.ofInt x ≤ 0 ↔ x ≤ 0 := by rw [i32_z]; exact i32_le hxr inR_0
    exact lv_if_le hx.1 hx.2.1 hd ht (fun q => by first | exact hw lm hl | exact absurd (he.mp q) h1) (fun q => by first | exact hw lm hl | exact absurd (he.mpr h1) q)
theorem sn_icmpeq {F : mF} {I : mI} {pc t n : Nat} {off : Int} (hd : decode I.2.1 pc = .ok (.if_icmp .eq off, 3)) (ht : (pc : Int) + off = (t : Int)) (hn : pc + 3 = n) : mSnd F I pc (o_icmp 0 t n) := by
  subst hn
  refine sn_gen fun C ls st M r h => ?_
  obtain ⟨x, y, st', rfl, (⟨h1, h2⟩ | ⟨h1, h2⟩)⟩ := h
  all_goals
    refine ⟨_, _, _, h2, fun hok => ⟨fun v hv => hok.2.1 v (List.mem_cons_of_mem _ (List.mem_cons_of_mem _ hv)), hok.2.2.1, rfl, ?_⟩⟩
    intro p l e R s m args below meth c Q G d H locs lm cells slots hx hl hw
    have hyr : inR y := hok.2.1 (vi y) List.mem_cons_self
    have hxr : inR x := hok.2.1 (vi x) (List.mem_cons_of_mem _ List.mem_cons_self)
    have he : Int32.ofInt x = Int32.ofInt y ↔ x = y := i32_eq hxr hyr
    exact lv_icmp_eq hx.1 hx.2.1 hd ht (fun q => by first | exact hw lm hl | exact absurd (he.mp q) h1) (fun q => by first | exact hw lm hl | exact absurd (he.mpr h1) q)
theorem sn_icmpne {F : mF} {I : mI} {pc t n : Nat} {off : Int} (hd : decode I.2.1 pc = .ok (.if_icmp .ne off, 3)) (ht : (pc : Int) + off = (t : Int)) (hn : pc + 3 = n) : mSnd F I pc (o_icmp 1 t n) := by
  subst hn
  refine sn_gen fun C ls st M r h => ?_
  obtain ⟨x, y, st', rfl, (⟨h1, h2⟩ | ⟨h1, h2⟩)⟩ := h
  · refine ⟨_, _, _, h2, fun hok => ⟨fun v hv => hok.2.1 v (List.mem_cons_of_mem _ (List.mem_cons_of_mem _ hv)), hok.2.2.1, rfl, ?_⟩⟩
    intro p l e R s m args below meth c Q G d H locs lm cells slots hx hl hw
    have hyr : inR y := hok.2.1 (vi y) List.mem_cons_self
    have hxr : inR x := hok.2.1 (vi x) (List.mem_cons_of_mem _ List.mem_cons_self)
    have he : Int32.ofInt x = Int32.ofInt y ↔ x = y := i32_eq hxr hyr
    exact lv_icmp_ne hx.1 hx.2.1 hd ht (fun _ => hw lm hl) (fun q => absurd (he.mp q) h1)
  · refine ⟨_, _, _, h2, fun hok => ⟨fun v hv => hok.2.1 v (List.mem_cons_of_mem _ (List.mem_cons_of_mem _ hv)), hok.2.2.1, rfl, ?_⟩⟩
    intro p l e R s m args below meth c Q G d H locs lm cells slots hx hl hw
    have hyr : inR y := hok.2.1 (vi y) List.mem_cons_self
    have hxr : inR x := hok.2.1 (vi x) (List.mem_cons_of_mem _ List.mem_cons_self)
    have he : Int32.ofInt x = Int32.ofInt y ↔ x = y := i32_eq hxr hyr
    exact lv_icmp_ne hx.1 hx.2.1 hd ht (fun q => absurd (fun w => q (he.mpr w)) h1) (fun _ => hw lm hl)
theorem sn_icmplt {F : mF} {I : mI} {pc t n : Nat} {off : Int} (hd : decode I.2.1 pc = .ok (.if_icmp .lt off, 3)) (ht : (pc : Int) + off = (t : Int)) (hn : pc + 3 = n) : mSnd F I pc (o_icmp 2 t n) := by
  subst hn
  refine sn_gen fun C ls st M r h => ?_
  obtain ⟨x, y, st', rfl, (⟨h1, h2⟩ | ⟨h1, h2⟩)⟩ := h
  all_goals
    refine ⟨_, _, _, h2, fun hok => ⟨fun v hv => hok.2.1 v (List.mem_cons_of_mem _ (List.mem_cons_of_mem _ hv)), hok.2.2.1, rfl, ?_⟩⟩
    intro p l e R s m args below meth c Q G d H locs lm cells slots hx hl hw
    have hyr : inR y := hok.2.1 (vi y) List.mem_cons_self
    have hxr : inR x := hok.2.1 (vi x) (List.mem_cons_of_mem _ List.mem_cons_self)
    have he : Int32.ofInt x < Int32.ofInt y ↔ x < y := i32_lt hxr hyr
    exact lv_icmp_lt hx.1 hx.2.1 hd ht (fun q => by first | exact hw lm hl | exact absurd (he.mp q) h1) (fun q => by first | exact hw lm hl | exact absurd (he.mpr h1) q)
theorem sn_icmpge {F : mF} {I : mI} {pc t n : Nat} {off : Int} (hd : decode I.2.1 pc = .ok (.if_icmp .ge off, 3)) (ht : (pc : Int) + off = (t : Int)) (hn : pc + 3 = n) : mSnd F I pc (o_icmp 3 t n) := by
  subst hn
  refine sn_gen fun C ls st M r h => ?_
  obtain ⟨x, y, st', rfl, (⟨h1, h2⟩ | ⟨h1, h2⟩)⟩ := h
  all_goals
    refine ⟨_, _, _, h2, fun hok => ⟨fun v hv => hok.2.1 v (List.mem_cons_of_mem _ (List.mem_cons_of_mem _ hv)), hok.2.2.1, rfl, ?_⟩⟩
    intro p l e R s m args below meth c Q G d H locs lm cells slots hx hl hw
    have hyr : inR y := hok.2.1 (vi y) List.mem_cons_self
    have hxr : inR x := hok.2.1 (vi x) (List.mem_cons_of_mem _ List.mem_cons_self)
    have he : Int32.ofInt y ≤ Int32.ofInt x ↔ y ≤ x := i32_le hyr hxr
    exact lv_icmp_ge hx.1 hx.2.1 hd ht (fun q => by first | exact hw lm hl | exact absurd (he.mp q) h1) (fun q => by first | exact hw lm hl | exact absurd (he.mpr h1) q)
theorem sn_icmpgt {F : mF} {I : mI} {pc t n : Nat} {off : Int} (hd : decode I.2.1 pc = .ok (.if_icmp .gt off, 3)) (ht : (pc : Int) + off = (t : Int)) (hn : pc + 3 = n) : mSnd F I pc (o_icmp 4 t n) := by
  subst hn
  refine sn_gen fun C ls st M r h => ?_
  obtain ⟨x, y, st', rfl, (⟨h1, h2⟩ | ⟨h1, h2⟩)⟩ := h
  all_goals
    refine ⟨_, _, _, h2, fun hok => ⟨fun v hv => hok.2.1 v (List.mem_cons_of_mem _ (List.mem_cons_of_mem _ hv)), hok.2.2.1, rfl, ?_⟩⟩
    intro p l e R s m args below meth c Q G d H locs lm cells slots hx hl hw
    have hyr : inR y := hok.2.1 (vi y) List.mem_cons_self
    have hxr : inR x := hok.2.1 (vi x) (List.mem_cons_of_mem _ List.mem_cons_self)
    have he : Int32.ofInt y < Int32.ofInt x ↔ y < x := i32_lt hyr hxr
    exact lv_icmp_gt hx.1 hx.2.1 hd ht (fun q => by first | exact hw lm hl | exact absurd (he.mp q) h1) (fun q => by first | exact hw lm hl | exact absurd (he.mpr h1) q)
theorem sn_icmple {F : mF} {I : mI} {pc t n : Nat} {off : Int} (hd : decode I.2.1 pc = .ok (.if_icmp .le off, 3)) (ht : (pc : Int) + off = (t : Int)) (hn : pc + 3 = n) : mSnd F I pc (o_icmp 5 t n) := by
  subst hn
  refine sn_gen fun C ls st M r h => ?_
  obtain ⟨x, y, st', rfl, (⟨h1, h2⟩ | ⟨h1, h2⟩)⟩ := h
  all_goals
    refine ⟨_, _, _, h2, fun hok => ⟨fun v hv => hok.2.1 v (List.mem_cons_of_mem _ (List.mem_cons_of_mem _ hv)), hok.2.2.1, rfl, ?_⟩⟩
    intro p l e R s m args below meth c Q G d H locs lm cells slots hx hl hw
    have hyr : inR y := hok.2.1 (vi y) List.mem_cons_self
    have hxr : inR x := hok.2.1 (vi x) (List.mem_cons_of_mem _ List.mem_cons_self)
    have he : Int32.ofInt x ≤ Int32.ofInt y ↔ x ≤ y := i32_le hxr hyr
    exact lv_icmp_le hx.1 hx.2.1 hd ht (fun q => by first | exact hw lm hl | exact absurd (he.mp q) h1) (fun q => by first | exact hw lm hl | exact absurd (he.mpr h1) q)
theorem sn_ifnull {F : mF} {I : mI} {pc t n : Nat} {off : Int} (hd : decode I.2.1 pc = .ok (.ifnull off, 3)) (ht : (pc : Int) + off = (t : Int)) (hn : pc + 3 = n) : mSnd F I pc (o_ifnull t n) := by
  subst hn
  refine sn_gen fun C ls st M r h => ?_
  obtain ⟨o, st', rfl, h0⟩ := h
  cases o with
  | none =>
    obtain (⟨-, h2⟩ | ⟨h1, -⟩) := h0
    · refine ⟨_, _, _, h2, fun hok => ⟨fun v hv => hok.2.1 v (List.mem_cons_of_mem _ hv), hok.2.2.1, rfl, ?_⟩⟩
      intro p l e R s m args below meth c Q G d H locs lm cells slots hx hl hw
      exact lv_ifnullN hx.1 hx.2.1 hd ht (hw lm hl)
    · exact absurd rfl h1
  | some a =>
    obtain (⟨h1, -⟩ | ⟨-, h2⟩) := h0
    · cases h1
    · refine ⟨_, _, _, h2, fun hok => ⟨fun v hv => hok.2.1 v (List.mem_cons_of_mem _ hv), hok.2.2.1, rfl, ?_⟩⟩
      intro p l e R s m args below meth c Q G d H locs lm cells slots hx hl hw
      exact lv_ifnull hx.1 hx.2.1 hd (hw lm hl)
/-- ifnonnull: the same with the two places changed -/
theorem sn_ifnonnull {F : mF} {I : mI} {pc t n : Nat} {off : Int} (hd : decode I.2.1 pc = .ok (.ifnonnull off, 3)) (ht : (pc : Int) + off = (t : Int)) (hn : pc + 3 = n) : mSnd F I pc (o_ifnull n t) := by
  subst hn
  refine sn_gen fun C ls st M r h => ?_
  obtain ⟨o, st', rfl, h0⟩ := h
  cases o with
  | none =>
    obtain (⟨-, h2⟩ | ⟨h1, -⟩) := h0
    · refine ⟨_, _, _, h2, fun hok => ⟨fun v hv => hok.2.1 v (List.mem_cons_of_mem _ hv), hok.2.2.1, rfl, ?_⟩⟩
      intro p l e R s m args below meth c Q G d H locs lm cells slots hx hl hw
      exact lv_ifnonnullN hx.1 hx.2.1 hd (hw lm hl)
    · exact absurd rfl h1
  | some a =>
    obtain (⟨h1, -⟩ | ⟨-, h2⟩) := h0
    · cases h1
    · refine ⟨_, _, _, h2, fun hok => ⟨fun v hv => hok.2.1 v (List.mem_cons_of_mem _ hv), hok.2.2.1, rfl, ?_⟩⟩
      intro p l e R s m args below meth c Q G d H locs lm cells slots hx hl hw
      exact lv_ifnonnull hx.1 hx.2.1 hd ht (hw lm hl)
/-! switches -/
def mKeys : Int → List Nat → List (Int × Nat)
  | _, [] => []
  | k, t :: ts => (k, t) :: mKeys (k + 1) ts
theorem mSw_in : ∀ (ts : List Nat) (k : Int) (d i : Nat) (t : Nat), ts[i]? = some t → mSw (mKeys k ts) d (k + i) = t
  | [], k, d, i, t, h => by simp at h
  | u :: ts, k, d, i, t, h => by
    rw [mKeys, mSw]
    cases i with
    | zero =>
      rw [if_pos (by simp)]
      simpa using h
    | succ i =>
      rw [if_neg (by omega)]
      have := mSw_in ts (k + 1) d i t (by simpa using h)
      rw [show k + ((i + 1 : Nat) : Int) = k + 1 + (i : Int) by omega]
      exact this
theorem mSw_out : ∀ (ts : List Nat) (k : Int) (d : Nat) (x : Int), (x < k ∨ k + ts.length ≤ x) → mSw (mKeys k ts) d x = d
  | [], k, d, x, h => rfl
  | u :: ts, k, d, x, h => by
    rw [List.length_cons] at h
    rw [mKeys, mSw, if_neg (by omega)]
    exact mSw_out ts (k + 1) d x (by omega)
theorem sn_tsw {F : mF} {I : mI} {pc d len : Nat} {dflt lo hi : Int} {offs : Array Int} {ts : List Nat} (hd : decode I.2.1 pc = .ok (.tableswitch dflt lo hi offs, len)) (hf : (pc : Int) + dflt = (d : Int)) (hh : hi = lo + ts.length - 1) (ho : offs.toList = ts.map (fun t : Nat => (t : Int) - (pc : Int))) : mSnd F I pc (o_sw (mKeys lo ts) d) := by
  refine sn_gen fun C ls st M r h => ?_
  obtain ⟨x, st', rfl, h2⟩ := h
  refine ⟨_, _, _, h2, fun hok => ⟨fun v hv => hok.2.1 v (List.mem_cons_of_mem _ hv), hok.2.2.1, rfl, ?_⟩⟩
  intro p l e R s m args below meth c Q G dd H locs lm cells slots hx hl hw
  have hxr : inR x := hok.2.1 (vi x) List.mem_cons_self
  have hw := hw lm hl
  by_cases hc : x < lo ∨ lo + ts.length ≤ x
  · rw [mSw_out ts lo d x hc] at hw
    exact lv_tableOut hx.1 hx.2.1 hd (by rw [i32 hxr]; omega) hf hw
  · have hk : (x - lo).toNat < ts.length := by omega
    obtain ⟨t, ht⟩ : ∃ t, ts[(x - lo).toNat]? = some t := ⟨_, List.getElem?_eq_getElem hk⟩
    have e := mSw_in ts lo d (x - lo).toNat t ht
    rw [show lo + (((x - lo).toNat : Nat) : Int) = x by omega] at e
    rw [e] at hw
    refine lv_tableIn (off := (t : Int) - pc) (tgt := t) hx.1 hx.2.1 hd (by rw [i32 hxr]; omega) (by rw [i32 hxr]; omega) ?_ (by omega) hw
    rw [i32 hxr, ← Array.getElem?_toList, ho, List.getElem?_map, ht]
    rfl
theorem mSw_look (pc d : Nat) (x : Int) : ∀ (ps : List (Int × Nat)), Op.lookupswitch.offset (ps.map (fun q => (q.1, (q.2 : Int) - pc))) ((d : Int) - pc) x = (mSw ps d x : Int) - pc
  | [] => rfl
  | (k, t) :: q => by
    rw [List.map_cons, Op.lookupswitch.offset_cons, mSw]
    by_cases h : x = k
    · rw [if_pos h.symm, if_pos h]
    · rw [if_neg (fun e => h e.symm), if_neg h]
      exact mSw_look pc d x q
theorem sn_lsw {F : mF} {I : mI} {pc d len : Nat} {dflt : Int} {arr : Array (Int × Int)} {ps : List (Int × Nat)} (hd : decode I.2.1 pc = .ok (.lookupswitch dflt arr, len)) (hf : dflt = (d : Int) - pc) (ho : arr.toList = ps.map (fun q => (q.1, (q.2 : Int) - pc))) (hp : (arr.toList.zip (arr.toList.drop 1)).all (fun (a, next) => a.1 < next.1) = true) : mSnd F I pc (o_sw ps d) := by
  refine sn_gen fun C ls st M r h => ?_
  obtain ⟨x, st', rfl, h2⟩ := h
  refine ⟨_, _, _, h2, fun hok => ⟨fun v hv => hok.2.1 v (List.mem_cons_of_mem _ hv), hok.2.2.1, rfl, ?_⟩⟩
  intro p l e R s m args below meth c Q G dd H locs lm cells slots hx hl hw
  have hxr : inR x := hok.2.1 (vi x) List.mem_cons_self
  refine lv_lookup (off := (mSw ps d x : Int) - pc) hx.1 hx.2.1 hd hp ?_ (by omega) (hw lm hl)
  rw [ho, hf, i32 hxr]
  exact mSw_look pc d x ps
