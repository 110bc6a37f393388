/-! ===== the JDK's strings: contracts over the own memory, which they leave ===== -/
def jMet (l : Launch) (G : mG) (y : MethodName) (J : mI) (d : Nat) (vs : List Value) (M : mM) (v : mV) : Prop :=
  Met l y (.code y J.2.1 J.2.2.1 J.2.2.2.1 :: TB) { frames := d, cells := nx M - nx M, slots := zs M - zs M, locals := 64 * d } (va_Pc vs (fun U => mRU G M U)) (mQc G (v, M)) (nx M - nx M) (zs M - zs M) (fun q => G.1 ≤ q)
/-- a method's frame, at depth d -/
def jCx (G : mG) (J : mI) (p : Program) (R : Room) (s : State) (m : MethodId) (args : Array Value) (meth : Method) (c : Code) (d : Nat) : Prop :=
  p.tables.exec = Jvm.exec ∧ c.code = J.2.1 ∧ c.maxLocals = J.2.2.1 ∧ meth.sig.returnType = J.2.2.2.1 ∧ meth.locks = false ∧ s.vm.findClass J.1 = some m.cls ∧ (∀ w ∈ TB, w.before args s = true) ∧ mK G s ∧ d + 1 ≤ R.frames ∧ 64 * (d + 1) ≤ R.locals
theorem jCx_of {G : mG} {J : mI} {p : Program} {R : Room} {s : State} {m : MethodId} {args : Array Value} {meth : Method} {c : Code} {d : Nat} (h : mCx G J p R s m args meth c d) : jCx G J p R s m args meth c (d + 8) :=
  ⟨h.1, h.2.1, h.2.2.1, h.2.2.2.1, h.2.2.2.2.1, h.2.2.2.2.2.1, h.2.2.2.2.2.2.1, h.2.2.2.2.2.2.2.1, h.2.2.2.2.2.2.2.2.2.1, by have := h.2.2.2.2.2.2.2.2.2.2.1; unfold mLc at this; omega⟩
section JST
variable {p : Program} {l : Launch} {e : Jvm.Env} {R : Room} {s : State} {m : MethodId} {args : Array Value} {below : List Frame} {meth : Method} {c : Code} {H : Heap} {locs : List Loc} {cells slots : Nat} {Q : State → Prop} {G : mG} {J : mI} {d pc : Nat} {lm : Array Slot} {rest st0 : List Value} {M : mM} {v : mV}
theorem j_of {y : MethodName} {vs : List Value} (hpl : plainName y.cls = true) (hI : J.1 = y.cls) (hfit : (lg_sl vs).length ≤ J.2.2.1)
    (hW : ∀ (p : Program) (e : Jvm.Env) (s : State) (m : MethodId) (below : List Frame) (meth : Method) (c : Code) (ls : Array Slot), jCx G J p { frames := d + 1, cells := nx M - nx M, slots := zs M - zs M, locals := 64 * (d + 1) } s m vs.toArray meth c d → va_P G.2.1 vwCl (mPl G M) s.heap → s.heap.size = G.1 + nx M → lv_has ls J.2.2.1 (lv_args 0 vs) →
      W p l e { frames := d + 1, cells := nx M - nx M, slots := zs M - zs M, locals := 64 * (d + 1) } s m vs.toArray below meth c s.heap [] 0 0 (MQ below (mQc G (v, M)) vs.toArray s 0 0 (fun q => G.1 ≤ q)) (F0 m 0 ls [])) : jMet l G y J (d + 1) vs M v := by
  unfold jMet
  refine Met.ofW (cc := J.2.1) (maxL := J.2.2.1) (ret := J.2.2.2.1) hpl rfl ?_
  intro p e s m args below meth c s₁ B hml hvv
  obtain ⟨rfl, hP, hz, hK⟩ := hvv
  have hts := atoms_spec (ws := .code y J.2.1 J.2.2.1 J.2.2.2.1 :: TB) B.pre
  have hown : s.vm.findClass y.cls = some m.cls := findClass_of_methodNamed B.named
  have h := hW p e s m below meth c _ ⟨B.exec, B.bytes, hml, B.returns, B.notSynchronized, by rw [hI]; exact hown, fun w hw => hts w (List.mem_cons_of_mem _ hw), hK, Nat.le_refl _, Nat.le_refl _⟩ hP hz (lv_entry vs hfit)
  rw [lg_entry_eq]
  rw [Nat.sub_self, Nat.sub_self] at h ⊢
  exact h
/-- what is said of a method that is called -/
def jMt (y : MethodName) (J : mI) (n : Nat) : Prop := Cond.code y J.2.1 J.2.2.1 J.2.2.2.1 ∈ TB ∧ Cond.initialized y.cls ∈ TB ∧ J.2.2.1 ≤ 45 ∧ (y.cls ≠ "java/lang/invoke/MethodHandle" ∧ y.cls ≠ "java/lang/invoke/VarHandle" ∧ (parseMethodDescriptor y.desc).map (fun d => d.parameters.length) = some n)
theorem jMt_good {y : MethodName} {n : Nat} (h : jMt y J n) : GoodIn TB (.code y J.2.1 J.2.2.1 J.2.2.2.1 :: TB) := TB_good (fun w hw => by
  rcases List.mem_cons.mp hw with rfl | hw
  · exact h.1
  · exact hw)
theorem j_callS (hx : jCx G J p R s m args meth c d) {y : MethodName} {J' : mI} {vs : List Value} {k idx d2 : Nat} (hM : jMet l G y J' d2 vs M v) (hdd : d2 ≤ d) (hm : jMt y J' k) (hl : Cond.methodLink J.1 idx y ∈ TB) (hs : Cond.static y ∈ TB) (hd : decode J.2.1 pc = .ok (.invokestatic idx, 3)) (hlen : vs.length = k) (hP : va_P G.2.1 vwCl (mPl G M) H) (hz : H.size = G.1 + nx M) (hS : va_S (fun q => G.1 ≤ q) s.heap H locs) (hsz : lm.size = J.2.2.1) (hcat : (rest.map fun v => v.category).sum ≤ 8) (hst : st0 = vs.reverse ++ rest) (hc1 : cells ≤ R.cells) (hc2 : slots ≤ R.slots)
    (kk : ∀ (H1 : Heap) (locs1 : List Loc), va_P G.2.1 vwCl (mPl G M) H1 → H1.size = G.1 + nx M → va_S (fun q => G.1 ≤ q) s.heap H1 locs1 → W p l e R s m args below meth c H1 locs1 cells slots Q (F0 m (pc + 3) lm ((rv G v).toList ++ rest))) : W p l e R s m args below meth c H locs cells slots Q (F0 m pc lm st0) := by
  subst hst
  obtain ⟨h1, h2, h3, h4, h5, h6, hts, hK, hr1, hr2⟩ := hx
  have h45 := hm.2.2.1
  refine m_run (r := (v, M)) (M := M) (rest := rest) (va_runS (As := vs) ⟨h1, h2, h3, h6, hts⟩ hM ⟨callB_of k hts (jMt_good hm) rfl rfl rfl (hts _ hm.2.1) (hts _ hl) hm.2.2.2 ⟨by show d2 + 1 ≤ R.frames; omega, by show 8 + (J'.2.2.1 + 11) + 64 * d2 ≤ R.locals; omega⟩, hts _ hs⟩ ⟨mRU_blind, fun U hU hW => ⟨rfl, by rw [hU]; exact hP, by rw [hU]; exact hz, hK.moved hW (by rw [hU]; exact hS.2.1)⟩⟩ rfl hlen hsz rfl (lv_room hcat) hd ⟨by show cells + (nx M - nx M) ≤ R.cells; omega, by show slots + (zs M - zs M) ≤ R.slots; omega⟩) hS (fun H1 locs1 hP1 hz1 hS1 => ?_)
  rw [show cells + (nx M - nx M) = cells by omega, show slots + (zs M - zs M) = slots by omega]
  exact kk H1 locs1 hP1 hz1 hS1
theorem j_callV (hx : jCx G J p R s m args meth c d) {y : MethodName} {J' : mI} {vs : List Value} {b k idx d2 : Nat} (hM : jMet l G y J' d2 (.ref b :: vs) M v) (hdd : d2 ≤ d) (hm : jMt y J' k) (hl : Cond.methodLink J.1 idx y ∈ TB) (hi : Cond.instanceMethod y ∈ TB) (hsel : Cond.selects y.cls y y ∈ TB) (hrc : ∃ cell : Cell, H[b]? = some cell ∧ cell.vm.isStatics = false ∧ s.vm.findClass y.cls = some cell.cls) (hd : decode J.2.1 pc = .ok (.invokevirtual idx, 3)) (hlen : vs.length = k) (hP : va_P G.2.1 vwCl (mPl G M) H) (hz : H.size = G.1 + nx M) (hS : va_S (fun q => G.1 ≤ q) s.heap H locs) (hsz : lm.size = J.2.2.1) (hcat : (rest.map fun v => v.category).sum ≤ 8) (hst : st0 = vs.reverse ++ .ref b :: rest) (hc1 : cells ≤ R.cells) (hc2 : slots ≤ R.slots)
    (kk : ∀ (H1 : Heap) (locs1 : List Loc), va_P G.2.1 vwCl (mPl G M) H1 → H1.size = G.1 + nx M → va_S (fun q => G.1 ≤ q) s.heap H1 locs1 → W p l e R s m args below meth c H1 locs1 cells slots Q (F0 m (pc + 3) lm ((rv G v).toList ++ rest))) : W p l e R s m args below meth c H locs cells slots Q (F0 m pc lm st0) := by
  subst hst
  obtain ⟨h1, h2, h3, h4, h5, h6, hts, hK, hr1, hr2⟩ := hx
  have h45 := hm.2.2.1
  refine m_run (r := (v, M)) (M := M) (rest := rest) (va_runV (C := y.cls) (b := b) (As := vs) ⟨h1, h2, h3, h6, hts⟩ hM ⟨callB_of k hts (jMt_good hm) rfl rfl rfl (hts _ hm.2.1) (hts _ hl) hm.2.2.2 ⟨by show d2 + 1 ≤ R.frames; omega, by show 8 + (J'.2.2.1 + 11) + 64 * d2 ≤ R.locals; omega⟩, hts _ hi, hts _ hsel⟩ ⟨mRU_blind, hrc, fun U hU hW => ⟨rfl, by rw [hU]; exact hP, by rw [hU]; exact hz, hK.moved hW (by rw [hU]; exact hS.2.1)⟩⟩ rfl hlen hsz rfl (lv_room hcat) hd ⟨by show cells + (nx M - nx M) ≤ R.cells; omega, by show slots + (zs M - zs M) ≤ R.slots; omega⟩) hS (fun H1 locs1 hP1 hz1 hS1 => ?_)
  rw [show cells + (nx M - nx M) = cells by omega, show slots + (zs M - zs M) = slots by omega]
  exact kk H1 locs1 hP1 hz1 hS1
end JST
