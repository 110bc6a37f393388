/-! ===== a run of the small machine is a run of the machine ===== -/
theorem mLk_snd {F : mF} {I : mI} : ∀ (t : mT) (pc : Nat), (∀ q ∈ t, mSnd F I q.1 q.2) → mSnd F I pc (mLk t pc)
  | [], pc, _ => sn_stuck
  | (p, o) :: t, pc, h => by
    rw [mLk]
    cases hb : Nat.beq p pc with
    | false => exact mLk_snd t pc (fun q hq => h q (List.mem_cons_of_mem _ hq))
    | true =>
      have e : p = pc := Nat.eq_of_beq_eq_true hb
      subst e
      exact h (p, o) List.mem_cons_self
theorem m_runs {F : mF} {I : mI} {l : Launch} {G : mG} {d : Nat} {C : mC} (hC : mGood l G F d C) {t : mT} (ht : ∀ q ∈ t, mSnd F I q.1 q.2) : ∀ (k : Nat) (x : mS) (r : mV × mM), mRun C t k x r → mOk I.2.2.1 x.2.1 x.2.2.1 x.2.2.2 → mWf r.2 ∧ nx x.2.2.2 ≤ nx r.2 ∧ zs x.2.2.2 ≤ zs r.2 ∧ (r.1 = none ∨ okV r.1) ∧
    ∀ (p : Program) (e : Env) (R : Room) (s : State) (m : MethodId) (args : Array Value) (below : List Frame) (meth : Method) (c : Code) (n0 z0 : Nat), mCx G I p R s m args meth c d → nx r.2 ≤ n0 + R.cells → zs r.2 ≤ z0 + R.slots → mAt p l e R s m args below meth c (MQ below (mQc G r) args s R.cells R.slots (fun q => G.1 ≤ q)) G n0 z0 x
  | 0, x, r, h, _ => h.elim
  | k + 1, (pc, ls, st, M), (v, M'), h, hok => by
    have hs := mLk_snd t pc ht l G d C hC ls st M hok
    rcases h with h | ⟨x', h1, h2⟩
    · obtain ⟨e1, h3, h4⟩ := hs.2 v M' h
      cases e1
      exact ⟨hok.1, Nat.le_refl _, Nat.le_refl _, h3, h4⟩
    · obtain ⟨g1, g2, g3, g4⟩ := hs.1 x' h1
      obtain ⟨f1, f2, f3, f4, f5⟩ := m_runs hC ht k x' (v, M') h2 g1
      refine ⟨f1, Nat.le_trans g2 f2, Nat.le_trans g3 f3, f4, ?_⟩
      intro p e R s m args below meth c n0 z0 hx hb1 hb2
      exact g4 p e R s m args below meth c _ n0 z0 hx (Nat.le_trans f2 hb1) (Nat.le_trans f3 hb2) (f5 p e R s m args below meth c n0 z0 hx hb1 hb2)
/-- what must be said of a system -/
def mSys (F : mF) (P : mP) : Prop := ∀ y, (P y).2 = (F y).2.2.2.1 ∧ (F y).2.1 = (F y).1.cls ∧ plainName (F y).1.cls = true ∧ ((F y).2.2.2.2.2 = true → (F y).1.name = "<init>") ∧ ∀ q ∈ (P y).1, mSnd F (F y).2 q.1 q.2
theorem m_good {F : mF} {P : mP} (hsys : mSys F P) (l : Launch) (G : mG) : ∀ d, mGood l G F d (mCall P d)
  | 0 => fun _ _ _ _ h => h.elim
  | d + 1 => by
    intro y as M r h hv hwf
    obtain ⟨hlen, k, hrun⟩ := h
    obtain ⟨h1, h2, h3, h4, h5⟩ := hsys y
    have hne : ∀ v ∈ as, v ≠ none := fun v h e => by
      have := hv v h
      rw [e] at this
      exact this
    have hent : ∀ v ∈ mEnt as, v = none ∨ okV v := by
      intro v hm
      obtain ⟨w, hw, hm⟩ := List.mem_flatMap.mp hm
      have ow := hv w hw
      rcases w with _ | z | z | o
      · exact ow.elim
      · rcases List.mem_singleton.mp hm with rfl
        exact Or.inr ow
      · rcases List.mem_cons.mp hm with rfl | hm
        · exact Or.inr ow
        · rcases List.mem_singleton.mp hm with rfl
          exact Or.inl rfl
      · rcases List.mem_singleton.mp hm with rfl
        exact Or.inr ow
    have hok : mOk (F y).2.2.2.1 (mPad as (P y).2) [] M := by
      refine ⟨hwf, fun v h => by simp at h, fun v hm => ?_, (mPad_len hlen).trans h1⟩
      unfold mPad at hm
      rcases List.mem_append.mp hm with hm | hm
      · exact hent v hm
      · exact Or.inl (List.eq_of_mem_replicate hm)
    obtain ⟨g1, g2, g3, g4, g5⟩ := m_runs (I := (F y).2) (m_good hsys l G d) h5 k _ r hrun hok
    refine ⟨g1, g2, g3, g4, ?_⟩
    have g2' : nx M ≤ nx r.2 := g2
    have g3' : zs M ≤ zs r.2 := g3
    unfold mMet
    refine Met.ofW (cc := (F y).2.2.1) (maxL := (F y).2.2.2.1) (ret := (F y).2.2.2.2.1) h3 rfl ?_
    intro p e s m args below meth c s₁ B hml hvv
    obtain ⟨rfl, hP, hz, hK⟩ := hvv
    have hts := atoms_spec (ws := .code (F y).1 (F y).2.2.1 (F y).2.2.2.1 (F y).2.2.2.2.1 :: TB) B.pre
    have hown : s.vm.findClass (F y).1.cls = some m.cls := findClass_of_methodNamed B.named
    rw [lg_entry_eq]
    have hl := mPad_has (G := G) (n := (P y).2) hlen hne
    rw [h1] at hl
    have hx : mCx G (F y).2 p { frames := d + 1 + 8, cells := nx r.2 - nx M, slots := zs r.2 - zs M, locals := mLc (d + 1) } s m (as.map (tv G)).toArray meth c d :=
      ⟨B.exec, B.bytes, hml, B.returns, B.notSynchronized, by rw [h2]; exact hown, fun w hw => hts w (List.mem_cons_of_mem _ hw), hK, fun q => (name_of_methodNamed B.named B.method).1.trans (h4 q), by show d + 9 ≤ d + 1 + 8; omega, by show mLc d + 64 ≤ mLc (d + 1); unfold mLc; omega, by rw [hz]; exact Nat.le_add_right _ _⟩
    have hat := g5 p e { frames := d + 1 + 8, cells := nx r.2 - nx M, slots := zs r.2 - zs M, locals := mLc (d + 1) } s m (as.map (tv G)).toArray below meth c (nx M) (zs M) hx (by show nx r.2 ≤ nx M + (nx r.2 - nx M); omega) (by show zs r.2 ≤ zs M + (zs r.2 - zs M); omega)
    exact hat s.heap [] _ 0 0 hP hz va_S.rf (by rw [hok.2.2.2, h1]; exact hl) rfl rfl
