/-! ===== soundness: fields and arrays ===== -/
section MPUT
variable {p : Program} {l : Launch} {e : Env} {R : Room} {s : State} {m : MethodId} {args : Array Value} {below : List Frame} {meth : Method} {c : Code} {H : Heap} {locs : List Loc} {cells slots : Nat} {Q : State → Prop}
variable {cc : ByteArray} {pc : Nat} {ls : Array Slot} {rest : List Value} {G : mG} {M M' : mM} {a : Nat}
theorem m_put (hexec : p.tables.exec = Jvm.exec) (hb : c.code = cc) {own C : String} {T : u_T} {N ci index : Nat} (hts : ∀ w ∈ TB, w.before args s = true) (hin : ∀ w ∈ u_ws C T N, w ∈ TB) (ty0 : Nat → FieldType) (hty : ∀ k, k < N → parseFieldDescriptor (T k).2.2.1 = some (ty0 k)) (hnm : ∀ a, a < N → ∀ b, b < N → a ≠ b → (T a).2.1 ≠ (T b).2.1) (hown : s.vm.findClass own = some m.cls) (hK : va_K G.2.1 vwCl (mTys G) s) (hP : va_P G.2.1 vwCl (mPl G M) H) (hS0 : va_S (fun q => G.1 ≤ q) s.heap H locs) (ha : a < nx M) {fs : List Value} (hea : mEn G M a = .inr (ci, fs)) (hc : vwCl[ci]? = some (C, T, N)) (k : Nat) (hk : k < N) (hlink : (Cond.fieldLink own index (T k).1 (T k).2.1 (T k).2.2.1).before args s = true) (hfin : (T k).2.2.2 = false ∨ ((T k).2.2.2 = true ∧ meth.name = "<init>" ∧ (T k).1 = own)) {v : Value} (hn : narrow (ty0 k) v = v) (hfit : fits (ty0 k) v = true) (hl : k < fs.length)
    (hdg : decode cc pc = .ok (.putfield index, 3)) (hnx : nx M' = nx M) (heo : ∀ b, b ≠ a → mEn G M' b = mEn G M b) (hea' : mEn G M' a = .inr (ci, fs.set k v))
    (kk : ∀ (H1 : Heap) (locs1 : List Loc), va_P G.2.1 vwCl (mPl G M') H1 → H1.size = H.size → va_S (fun q => G.1 ≤ q) s.heap H1 locs1 → W p l e R s m args below meth c H1 locs1 cells slots Q (F0 m (pc + 3) ls rest)) : W p l e R s m args below meth c H locs cells slots Q (F0 m pc ls (v :: .ref (G.1 + a) :: rest)) := by
  have hap := va_apart (own := own) hts hin ty0 hty hnm hK hc
  obtain ⟨r, h1, cell, q1, q2, q3, q4⟩ := hP a (G.1 + a, .inr (ci, fs)) (by rw [mPl_get ha, hea])
  have hr : r = (C, T, N) := Option.some.inj (h1.symm.trans hc)
  subst hr
  obtain ⟨hS, hfc, kC, hkC, hkind⟩ := hK.1 ci _ hc
  obtain ⟨cf, kf, fi, f, hi, hsl⟩ := hS k hk
  have hlay := hts _ (hin _ (u_in_lay hk))
  unfold u_lay at hlay
  have hst := (u_facts hfc hkC (u_lays hts hin hk) hi).1
  have fin : ∀ H' : Heap, H'[G.1 + a]? = some (cell.setSlot f.slot v) → H'.size = H.size → (∀ q, q ≠ G.1 + a → H'[q]? = H[q]?) → W p l e R s m args below meth c H' (locs ++ [⟨G.1 + a, f.slot⟩]) cells slots Q (F0 m (pc + 3) ls rest) := by
    intro H' e1 e2 e3
    rw [hsl] at e1 ⊢
    exact kk H' _ (mPl_put hP hnx heo (by rw [hea']; exact ⟨_, hc, t_OB.to (V := updV (vp_V fs) k v) ⟨_, e1, q2, q3, t_set q4 hap hk v⟩ (fun j _ => vp_updV_set hl v j)⟩) e3) e2 (hS0.put e2 e3 (Nat.le_add_right _ _))
  rcases hfin with hfin | ⟨hfin, hin2, hdecl⟩
  · rw [if_neg (by rw [hfin]; decide)] at hlay
    have h6 := u_store hfc hkC hkind hlay hi (hty k hk) hn hfit
    exact W.putK hexec hb (f := f) ⟨hown, hlink, ⟨_, _, _, hi⟩, hst⟩ (by rw [q2]; exact h6) q1 q3 (by rw [hsl]; exact k2_hasslot (q4 k hk)) rfl rfl hdg fin
  · rw [if_pos hfin] at hlay
    have hcf : m.cls = cf := by
      obtain ⟨_, _, c', _, _, _, -, -, hf', -, -, -, hown2, -⟩ := Cond.laysFinal_spec hlay
      have e1 : c' = cf := by have := hi.symm.trans hf'; simp at this; exact this.1.symm
      rw [hdecl] at hown2
      rw [← e1]; exact Option.some.inj (hown.symm.trans hown2)
    have h6 := u_fits hfc hkC hkind (Or.inr hlay) hi (hty k hk) hn hfit
    exact W.putFinK hexec hb hown hlink hi hst hcf hin2 (by rw [q2]; exact h6) q1 q3 (by rw [hsl]; exact k2_hasslot (q4 k hk)) rfl rfl hdg fin
end MPUT
/-- what is known of a class by its number -/
def mCl (c : Nat) (C : String) (T : u_T) (N : Nat) : Prop := c < 13 ∧ vwCl[c]? = some (C, T, N) ∧ mFn c = N ∧ (∀ w ∈ u_ws C T N, w ∈ TB) ∧ (∀ k, k < N → parseFieldDescriptor (T k).2.2.1 = some (mFt c k)) ∧ (∀ a, a < N → ∀ b, b < N → a ≠ b → (T a).2.1 ≠ (T b).2.1)
theorem sn_geti {F : mF} {I : mI} {pc n c f idx N : Nat} {C : String} {T : u_T} (hc : mCl c C T N) (hf : f < N) (ht : mIsR (mFt c f) = false) (hl : Cond.fieldLink I.1 idx (T f).1 (T f).2.1 (T f).2.2.1 ∈ TB) (hd : decode I.2.1 pc = .ok (.getfield idx, 3)) (hn : pc + 3 = n) : mSnd F I pc (o_geti c f n) := by
  subst hn
  refine sn_push (n := pc + 3) fun CC ls st M r h => ?_
  obtain ⟨a, st', rfl, hk, h2⟩ := h
  refine ⟨_, h2, fun hok => ⟨fun v hv => ?_, ?_⟩⟩
  · rcases List.mem_cons.mp hv with rfl | hv
    · exact hok.1.2.1 a f (by rw [hk]; have := hc.1; omega)
    · exact hok.2.1 v (List.mem_cons_of_mem _ hv)
  · intro p l e R s m args below meth cd Q G d H locs lm cells slots hx hP hl2 hw
    have ha : a < nx M := mLt hok.1 hk (by have := hc.1; omega)
    exact va_get hx.1 hx.2.1 hx.2.2.2.2.2.2.1 hc.2.2.2.1 hx.2.2.2.2.2.1 hx.2.2.2.2.2.2.2.1.1 hP a (by rw [mPl_get ha, mEn_o hk hc.1]) hc.2.1 f hf (hx.2.2.2.2.2.2.1 _ hl) (fun _ h9 => h9) (by rw [mFs_get hk (by rw [hc.2.2.1]; exact hf), mFv_i hk ht]; rfl) hd hw
theorem sn_getr {F : mF} {I : mI} {pc n c f idx N : Nat} {C : String} {T : u_T} (hc : mCl c C T N) (hf : f < N) (ht : mIsR (mFt c f) = true) (hl : Cond.fieldLink I.1 idx (T f).1 (T f).2.1 (T f).2.2.1 ∈ TB) (hd : decode I.2.1 pc = .ok (.getfield idx, 3)) (hn : pc + 3 = n) : mSnd F I pc (o_getr c f n) := by
  subst hn
  refine sn_push (n := pc + 3) fun CC ls st M r h => ?_
  obtain ⟨a, st', rfl, hk, h2⟩ := h
  refine ⟨_, h2, fun hok => ⟨fun v hv => ?_, ?_⟩⟩
  · rcases List.mem_cons.mp hv with rfl | hv
    · trivial
    · exact hok.2.1 v (List.mem_cons_of_mem _ hv)
  · intro p l e R s m args below meth cd Q G d H locs lm cells slots hx hP hl2 hw
    have ha : a < nx M := mLt hok.1 hk (by have := hc.1; omega)
    exact va_get hx.1 hx.2.1 hx.2.2.2.2.2.2.1 hc.2.2.2.1 hx.2.2.2.2.2.1 hx.2.2.2.2.2.2.2.1.1 hP a (by rw [mPl_get ha, mEn_o hk hc.1]) hc.2.1 f hf (hx.2.2.2.2.2.2.1 _ hl) (fun _ h9 => h9) (by rw [mFs_get hk (by rw [hc.2.2.1]; exact hf), mFv_r hk ht]; rfl) hd hw
/-- an operation that changes the memory at one place, with the locals as they are -/
theorem sn_mem {F : mF} {I : mI} {pc n : Nat} {o : mO} (hi : ∀ C ls st M r, o C ls st M r → ∃ st' M', r = .inl (n, ls, st', M') ∧ (mOk I.2.2.1 ls st M → mWf M' ∧ (∀ v ∈ st', okV v) ∧ nx M ≤ nx M' ∧ zs M ≤ zs M' ∧
    ∀ (p : Program) (l : Launch) (e : Env) (R : Room) (s : State) (m : MethodId) (args : Array Value) (below : List Frame) (meth : Method) (c : Code) (Q : State → Prop) (G : mG) (d : Nat) (H : Heap) (locs : List Loc) (lm : Array Slot) (cells slots : Nat), mCx G I p R s m args meth c d → va_P G.2.1 vwCl (mPl G M) H → H.size = G.1 + nx M → va_S (fun q => G.1 ≤ q) s.heap H locs → lm.size = ls.length → cells + (nx M' - nx M) ≤ R.cells → slots + (zs M' - zs M) ≤ R.slots →
      (∀ (H1 : Heap) (locs1 : List Loc), va_P G.2.1 vwCl (mPl G M') H1 → H1.size = G.1 + nx M' → va_S (fun q => G.1 ≤ q) s.heap H1 locs1 → W p l e R s m args below meth c H1 locs1 (cells + (nx M' - nx M)) (slots + (zs M' - zs M)) Q (F0 m n lm (st'.map (tv G)))) → W p l e R s m args below meth c H locs cells slots Q (F0 m pc lm (st.map (tv G))))) : mSnd F I pc o := by
  intro l G d C hC ls st M hok
  refine ⟨fun x' h => ?_, fun v M' h => ?_⟩
  · obtain ⟨st', M', h1, h2⟩ := hi C ls st M _ h
    cases h1
    obtain ⟨h3, h4, h5, h6, h7⟩ := h2 hok
    refine ⟨⟨h3, h4, hok.2.2⟩, h5, h6, ?_⟩
    intro p e R s m args below meth c Q n0 z0 hx hb1 hb2 hk H locs lm cells slots hP hz hS hl hc hs
    have hb1' : nx M' ≤ n0 + R.cells := hb1
    have hb2' : zs M' ≤ z0 + R.slots := hb2
    have hc' : nx M = n0 + cells := hc
    have hs' : zs M = z0 + slots := hs
    exact h7 p l e R s m args below meth c Q G d H locs lm cells slots hx hP hz hS hl.1 (by omega) (by omega) (fun H1 locs1 hP1 hz1 hS1 => hk H1 locs1 lm _ _ hP1 hz1 hS1 hl (by show nx M' = _; omega) (by show zs M' = _; omega))
  · obtain ⟨st', M', h1, -⟩ := hi C ls st M _ h
    cases h1
theorem nar_z {z : Int} (h : z = 0 ∨ z = 1) : narrow .boolean (.int (Int32.ofInt z)) = .int (Int32.ofInt z) ∧ fits .boolean (.int (Int32.ofInt z)) = true := by
  rcases h with rfl | rfl <;> decide
theorem sn_mem0 {F : mF} {I : mI} {pc n : Nat} {o : mO} (hi : ∀ C ls st M r, o C ls st M r → ∃ st' M', r = .inl (n, ls, st', M') ∧ (mOk I.2.2.1 ls st M → mWf M' ∧ (∀ v ∈ st', okV v) ∧ nx M = nx M' ∧ zs M = zs M' ∧
    ∀ (p : Program) (l : Launch) (e : Env) (R : Room) (s : State) (m : MethodId) (args : Array Value) (below : List Frame) (meth : Method) (c : Code) (Q : State → Prop) (G : mG) (d : Nat) (H : Heap) (locs : List Loc) (lm : Array Slot) (cells slots : Nat), mCx G I p R s m args meth c d → va_P G.2.1 vwCl (mPl G M) H → H.size = G.1 + nx M → va_S (fun q => G.1 ≤ q) s.heap H locs → lm.size = ls.length →
      (∀ (H1 : Heap) (locs1 : List Loc), va_P G.2.1 vwCl (mPl G M') H1 → H1.size = G.1 + nx M → va_S (fun q => G.1 ≤ q) s.heap H1 locs1 → W p l e R s m args below meth c H1 locs1 cells slots Q (F0 m n lm (st'.map (tv G)))) → W p l e R s m args below meth c H locs cells slots Q (F0 m pc lm (st.map (tv G))))) : mSnd F I pc o := by
  refine sn_mem (n := n) fun C ls st M r h => ?_
  obtain ⟨st', M', h1, h2⟩ := hi C ls st M r h
  refine ⟨st', M', h1, fun hok => ?_⟩
  obtain ⟨h3, h4, h5, h6, h7⟩ := h2 hok
  refine ⟨h3, h4, by omega, by omega, ?_⟩
  intro p l e R s m args below meth c Q G d H locs lm cells slots hx hP hz hS hl _ _ hw
  refine h7 p l e R s m args below meth c Q G d H locs lm cells slots hx hP hz hS hl (fun H1 locs1 hP1 hz1 hS1 => ?_)
  have := hw H1 locs1 hP1 (by omega) hS1
  rw [show cells + (nx M' - nx M) = cells by omega, show slots + (zs M' - zs M) = slots by omega] at this
  exact this
theorem wf_si {M : mM} {a i : Nat} {z : Int} (h : mWf M) (h1 : kd M a ≠ 15 → inR z) (h2 : kd M a = 15 → inL z) : mWf (si M a i z) := by
  refine ⟨h.1, fun b j hb => ?_, fun b j hb => ?_, h.2.2.2⟩
  · rw [gi_si]
    split
    · rename_i q
      rw [q.1] at hb
      exact h1 hb
    · exact h.2.1 b j hb
  · rw [gi_si]
    split
    · rename_i q
      rw [q.1] at hb
      exact h2 hb
    · exact h.2.2.1 b j hb
theorem wf_sr {M : mM} {a i : Nat} {o : Option Nat} (h : mWf M) : mWf (sr M a i o) := h
theorem wf_al {M : mM} {k n w : Nat} (h : mWf M) (hk : k < 99) (hn : n < 2147483648) : mWf (al M k n w) := by
  refine ⟨fun a ha => ?_, fun a i hk1 => ?_, fun a i hk1 => ?_, fun a => ?_⟩
  · rw [nx_al] at ha
    rw [kd_al, if_neg (by omega)]
    exact h.1 a (by omega)
  · rw [gi_al]
    rw [kd_al] at hk1
    split
    · exact inR_0
    · rename_i q
      rw [if_neg q] at hk1
      exact h.2.1 a i hk1
  · rw [gi_al]
    rw [kd_al] at hk1
    split
    · exact ⟨by decide, by decide⟩
    · rename_i q
      rw [if_neg q] at hk1
      exact h.2.2.1 a i hk1
  · rw [ln_al]
    split
    · exact hn
    · exact h.2.2.2 a
theorem mEn_puti {G : mG} {M : mM} {a c f : Nat} {z : Int} (hk : kd M a = c) (hc : c < 13) (ht : mIsR (mFt c f) = false) : mEn G (si M a f z) a = .inr (c, (mFs G M a).set f (.int (Int32.ofInt z))) := by
  have e : (mFs G M a).set f (.int (Int32.ofInt z)) = mFs G (si M a f z) a := by
    refine mFs_set hk rfl (fun _ => ?_) (fun i hi => ?_)
    · rw [mFv_i (M := si M a f z) (c := c) hk ht, gi_si, if_pos ⟨rfl, rfl⟩]
    · unfold mFv
      rw [kd_si, gr_si, gi_si, if_neg (show ¬ (a = a ∧ i = f) from fun q => hi q.2)]
  rw [e]
  exact mEn_o (M := si M a f z) (c := c) hk hc
theorem mEn_putr {G : mG} {M : mM} {a c f : Nat} {o : Option Nat} (hk : kd M a = c) (hc : c < 13) (ht : mIsR (mFt c f) = true) : mEn G (sr M a f o) a = .inr (c, (mFs G M a).set f (va_rf (mRf G o))) := by
  have e : (mFs G M a).set f (va_rf (mRf G o)) = mFs G (sr M a f o) a := by
    refine mFs_set hk rfl (fun _ => ?_) (fun i hi => ?_)
    · rw [mFv_r (M := sr M a f o) (c := c) hk ht, gr_sr, if_pos ⟨rfl, rfl⟩]
    · unfold mFv
      rw [kd_sr, gi_sr, gr_sr, if_neg (show ¬ (a = a ∧ i = f) from fun q => hi q.2)]
  rw [e]
  exact mEn_o (M := sr M a f o) (c := c) hk hc
/-- what must be said of a store into a field that is final: only its own constructor does it -/
def mFin (I : mI) (T : u_T) (f : Nat) : Prop := (T f).2.2.2 = false ∨ ((T f).2.2.2 = true ∧ I.2.2.2.2 = true ∧ (T f).1 = I.1)
theorem sn_puti {F : mF} {I : mI} {pc n c f idx N : Nat} {C : String} {T : u_T} (hc : mCl c C T N) (hf : f < N) (ht : mFt c f = .int) (hfin : mFin I T f) (hl : Cond.fieldLink I.1 idx (T f).1 (T f).2.1 (T f).2.2.1 ∈ TB) (hd : decode I.2.1 pc = .ok (.putfield idx, 3)) (hn : pc + 3 = n) : mSnd F I pc (o_puti c f n) := by
  subst hn
  refine sn_mem0 (n := pc + 3) fun CC ls st M r h => ?_
  obtain ⟨a, z, st', rfl, hk, h2⟩ := h
  refine ⟨_, _, h2, fun hok => ?_⟩
  have hz : inR z := hok.2.1 (vi z) List.mem_cons_self
  have ha : a < nx M := mLt hok.1 hk (by have := hc.1; omega)
  refine ⟨wf_si hok.1 (fun _ => hz) (fun q => by have := hc.1; omega), fun v hv => hok.2.1 v (List.mem_cons_of_mem _ (List.mem_cons_of_mem _ hv)), rfl, rfl, ?_⟩
  intro p l e R s m args below meth cd Q G d H locs lm cells slots hx hP hzz hS hlm hw
  have hRf : mIsR (mFt c f) = false := by rw [ht]; rfl
  refine m_put (M' := si M a f z) hx.1 hx.2.1 hx.2.2.2.2.2.2.1 hc.2.2.2.1 (mFt c) hc.2.2.2.2.1 hc.2.2.2.2.2 hx.2.2.2.2.2.1 hx.2.2.2.2.2.2.2.1.1 hP hS ha (mEn_o hk hc.1) hc.2.1 f hf (hx.2.2.2.2.2.2.1 _ hl) (hfin.imp id (fun q => ⟨q.1, hx.2.2.2.2.2.2.2.2.1 q.2.1, q.2.2⟩)) (by rw [ht]; rfl) (by rw [ht]; rfl) (by rw [mFs_len hk, hc.2.2.1]; exact hf) hd rfl (fun b hb => mEn_si hb) ?_ (fun H1 locs1 hP1 hz1 hS1 => hw H1 locs1 hP1 (hz1.trans hzz) hS1)
  exact mEn_puti hk hc.1 hRf
theorem sn_putz {F : mF} {I : mI} {pc n c f idx N : Nat} {C : String} {T : u_T} (hc : mCl c C T N) (hf : f < N) (ht : mFt c f = .boolean) (hfin : mFin I T f) (hl : Cond.fieldLink I.1 idx (T f).1 (T f).2.1 (T f).2.2.1 ∈ TB) (hd : decode I.2.1 pc = .ok (.putfield idx, 3)) (hn : pc + 3 = n) : mSnd F I pc (o_putz c f n) := by
  subst hn
  refine sn_mem0 (n := pc + 3) fun CC ls st M r h => ?_
  obtain ⟨a, z, st', rfl, hk, hb, h2⟩ := h
  refine ⟨_, _, h2, fun hok => ?_⟩
  have hz : inR z := hok.2.1 (vi z) List.mem_cons_self
  have ha : a < nx M := mLt hok.1 hk (by have := hc.1; omega)
  refine ⟨wf_si hok.1 (fun _ => hz) (fun q => by have := hc.1; omega), fun v hv => hok.2.1 v (List.mem_cons_of_mem _ (List.mem_cons_of_mem _ hv)), rfl, rfl, ?_⟩
  intro p l e R s m args below meth cd Q G d H locs lm cells slots hx hP hzz hS hlm hw
  have hRf : mIsR (mFt c f) = false := by rw [ht]; rfl
  refine m_put (M' := si M a f z) hx.1 hx.2.1 hx.2.2.2.2.2.2.1 hc.2.2.2.1 (mFt c) hc.2.2.2.2.1 hc.2.2.2.2.2 hx.2.2.2.2.2.1 hx.2.2.2.2.2.2.2.1.1 hP hS ha (mEn_o hk hc.1) hc.2.1 f hf (hx.2.2.2.2.2.2.1 _ hl) (hfin.imp id (fun q => ⟨q.1, hx.2.2.2.2.2.2.2.2.1 q.2.1, q.2.2⟩)) (by rw [ht]; exact (nar_z hb).1) (by rw [ht]; exact (nar_z hb).2) (by rw [mFs_len hk, hc.2.2.1]; exact hf) hd rfl (fun b hb => mEn_si hb) ?_ (fun H1 locs1 hP1 hz1 hS1 => hw H1 locs1 hP1 (hz1.trans hzz) hS1)
  exact mEn_puti hk hc.1 hRf
theorem nar_r {t : FieldType} (h : mIsR t = true) (o : Option Nat) : narrow t (va_rf o) = va_rf o ∧ fits t (va_rf o) = true := by
  cases t <;> first | (cases h; done) | (cases o <;> exact ⟨rfl, rfl⟩)
theorem sn_putr {F : mF} {I : mI} {pc n c f idx N : Nat} {C : String} {T : u_T} (hc : mCl c C T N) (hf : f < N) (ht : mIsR (mFt c f) = true) (hfin : mFin I T f) (hl : Cond.fieldLink I.1 idx (T f).1 (T f).2.1 (T f).2.2.1 ∈ TB) (hd : decode I.2.1 pc = .ok (.putfield idx, 3)) (hn : pc + 3 = n) : mSnd F I pc (o_putr c f n) := by
  subst hn
  refine sn_mem0 (n := pc + 3) fun CC ls st M r h => ?_
  obtain ⟨a, o, st', rfl, hk, h2⟩ := h
  refine ⟨_, _, h2, fun hok => ?_⟩
  have ha : a < nx M := mLt hok.1 hk (by have := hc.1; omega)
  refine ⟨wf_sr hok.1, fun v hv => hok.2.1 v (List.mem_cons_of_mem _ (List.mem_cons_of_mem _ hv)), rfl, rfl, ?_⟩
  intro p l e R s m args below meth cd Q G d H locs lm cells slots hx hP hzz hS hlm hw
  refine m_put (M' := sr M a f o) (v := va_rf (mRf G o)) hx.1 hx.2.1 hx.2.2.2.2.2.2.1 hc.2.2.2.1 (mFt c) hc.2.2.2.2.1 hc.2.2.2.2.2 hx.2.2.2.2.2.1 hx.2.2.2.2.2.2.2.1.1 hP hS ha (mEn_o hk hc.1) hc.2.1 f hf (hx.2.2.2.2.2.2.1 _ hl) (hfin.imp id (fun q => ⟨q.1, hx.2.2.2.2.2.2.2.2.1 q.2.1, q.2.2⟩)) (nar_r ht _).1 (nar_r ht _).2 (by rw [mFs_len hk, hc.2.2.1]; exact hf) hd rfl (fun b hb => mEn_sr hb) ?_ (fun H1 locs1 hP1 hz1 hS1 => hw H1 locs1 hP1 (hz1.trans hzz) hS1)
  exact mEn_putr hk hc.1 ht
/-! arrays -/
theorem sn_iald {F : mF} {I : mI} {pc n : Nat} (hd : decode I.2.1 pc = .ok (.iaload, 1)) (hn : pc + 1 = n) : mSnd F I pc (o_ald 14 n) := by
  subst hn
  refine sn_push (n := pc + 1) fun CC ls st M r h => ?_
  obtain ⟨a, i, st', rfl, hk, h0, h1, h2⟩ := h
  refine ⟨_, h2, fun hok => ?_⟩
  have hir : inR i := hok.2.1 (vi i) List.mem_cons_self
  refine ⟨fun v hv => ?_, ?_⟩
  · rcases List.mem_cons.mp hv with rfl | hv
    · exact hok.1.2.1 a _ (by omega)
    · exact hok.2.1 v (List.mem_cons_of_mem _ (List.mem_cons_of_mem _ hv))
  · intro p l e R s m args below meth cd Q G d H locs lm cells slots hx hP hl2 hw
    have ha : a < nx M := mLt hok.1 hk (by omega)
    refine va_iald hx.1 hx.2.1 hx.2.2.2.2.2.2.2.1.1 hP a 1 (by rw [mPl_get ha, mEn_i hk (by omega)]) rfl (i32_in hir h0 h1) hd ?_
    rw [i32_nat hir]
    exact hw
theorem sn_bald {F : mF} {I : mI} {pc n : Nat} (hd : decode I.2.1 pc = .ok (.baload, 1)) (hn : pc + 1 = n) : mSnd F I pc (o_ald 13 n) := by
  subst hn
  refine sn_push (n := pc + 1) fun CC ls st M r h => ?_
  obtain ⟨a, i, st', rfl, hk, h0, h1, h2⟩ := h
  refine ⟨_, h2, fun hok => ?_⟩
  have hir : inR i := hok.2.1 (vi i) List.mem_cons_self
  refine ⟨fun v hv => ?_, ?_⟩
  · rcases List.mem_cons.mp hv with rfl | hv
    · exact hok.1.2.1 a _ (by omega)
    · exact hok.2.1 v (List.mem_cons_of_mem _ (List.mem_cons_of_mem _ hv))
  · intro p l e R s m args below meth cd Q G d H locs lm cells slots hx hP hl2 hw
    have ha : a < nx M := mLt hok.1 hk (by omega)
    refine va_bald hx.1 hx.2.1 hx.2.2.2.2.2.2.2.1.1 hP a 0 (by rw [mPl_get ha, mEn_i hk (by omega)]) rfl (i32_in hir h0 h1) hd ?_
    rw [i32_nat hir]
    exact hw
theorem sn_zald {F : mF} {I : mI} {pc n : Nat} (hd : decode I.2.1 pc = .ok (.baload, 1)) (hn : pc + 1 = n) : mSnd F I pc (o_ald 16 n) := by
  subst hn
  refine sn_push (n := pc + 1) fun CC ls st M r h => ?_
  obtain ⟨a, i, st', rfl, hk, h0, h1, h2⟩ := h
  refine ⟨_, h2, fun hok => ?_⟩
  have hir : inR i := hok.2.1 (vi i) List.mem_cons_self
  refine ⟨fun v hv => ?_, ?_⟩
  · rcases List.mem_cons.mp hv with rfl | hv
    · exact hok.1.2.1 a _ (by omega)
    · exact hok.2.1 v (List.mem_cons_of_mem _ (List.mem_cons_of_mem _ hv))
  · intro p l e R s m args below meth cd Q G d H locs lm cells slots hx hP hl2 hw
    have ha : a < nx M := mLt hok.1 hk (by omega)
    refine va_zald hx.1 hx.2.1 hx.2.2.2.2.2.2.2.1.1 hP a 3 (by rw [mPl_get ha, mEn_i hk (by omega)]) rfl (i32_in hir h0 h1) hd ?_
    rw [i32_nat hir]
    exact hw
theorem sn_lald {F : mF} {I : mI} {pc n : Nat} (hd : decode I.2.1 pc = .ok (.laload, 1)) (hn : pc + 1 = n) : mSnd F I pc (o_lald n) := by
  subst hn
  refine sn_push (n := pc + 1) fun CC ls st M r h => ?_
  obtain ⟨a, i, st', rfl, hk, h0, h1, h2⟩ := h
  refine ⟨_, h2, fun hok => ?_⟩
  have hir : inR i := hok.2.1 (vi i) List.mem_cons_self
  refine ⟨fun v hv => ?_, ?_⟩
  · rcases List.mem_cons.mp hv with rfl | hv
    · exact hok.1.2.2.1 a _ hk
    · exact hok.2.1 v (List.mem_cons_of_mem _ (List.mem_cons_of_mem _ hv))
  · intro p l e R s m args below meth cd Q G d H locs lm cells slots hx hP hl2 hw
    have ha : a < nx M := mLt hok.1 hk (by omega)
    refine va_lald hx.1 hx.2.1 hx.2.2.2.2.2.2.2.1.1 hP a 2 (by rw [mPl_get ha, mEn_l hk]) rfl (i32_in hir h0 h1) hd ?_
    rw [i32_nat hir]
    exact hw
theorem sn_rald {F : mF} {I : mI} {pc n k t0 : Nat} {C : String} (hk17 : 17 ≤ k ∧ k < 21) (ht : ∀ G : mG, (mTys G)[t0]? = some (G.2.2 k, .object C)) (hd : decode I.2.1 pc = .ok (.aaload, 1)) (hn : pc + 1 = n) : mSnd F I pc (o_rald k n) := by
  subst hn
  refine sn_push (n := pc + 1) fun CC ls st M r h => ?_
  obtain ⟨a, i, st', rfl, hk, h0, h1, h2⟩ := h
  refine ⟨_, h2, fun hok => ?_⟩
  have hir : inR i := hok.2.1 (vi i) List.mem_cons_self
  refine ⟨fun v hv => ?_, ?_⟩
  · rcases List.mem_cons.mp hv with rfl | hv
    · trivial
    · exact hok.2.1 v (List.mem_cons_of_mem _ (List.mem_cons_of_mem _ hv))
  · intro p l e R s m args below meth cd Q G d H locs lm cells slots hx hP hl2 hw
    have ha : a < nx M := mLt hok.1 hk (by omega)
    refine va_aldq hx.1 hx.2.1 hx.2.2.2.2.2.2.2.1.1 hP a t0 (by rw [mPl_get ha, mEn_r hk hk17.1]) (ht G) (i32_in hir h0 h1) hd ?_
    rw [i32_nat hir]
    exact hw
theorem sn_raldA {F : mF} {I : mI} {pc n : Nat} (hd : decode I.2.1 pc = .ok (.aaload, 1)) (hn : pc + 1 = n) : mSnd F I pc (o_rald 21 n) := by
  subst hn
  refine sn_push (n := pc + 1) fun CC ls st M r h => ?_
  obtain ⟨a, i, st', rfl, hk, h0, h1, h2⟩ := h
  refine ⟨_, h2, fun hok => ?_⟩
  have hir : inR i := hok.2.1 (vi i) List.mem_cons_self
  refine ⟨fun v hv => ?_, ?_⟩
  · rcases List.mem_cons.mp hv with rfl | hv
    · trivial
    · exact hok.2.1 v (List.mem_cons_of_mem _ (List.mem_cons_of_mem _ hv))
  · intro p l e R s m args below meth cd Q G d H locs lm cells slots hx hP hl2 hw
    have ha : a < nx M := mLt hok.1 hk (by omega)
    have hin := i32_in hir h0 h1
    have hlt : (Int32.ofInt i).toNatClampNeg < ln M a := Nat.not_le.mp fun q => hin (Or.inr q)
    have hcell : H[G.1 + a]? = some (vp_cell (G.2.2 21) (ln M a, .inr (.inr (.inr (.inr (fun j => mRf G (gr M a j))))))) := hP a (G.1 + a, .inl (G.2.2 21, ln M a, .inr (.inr (.inr (.inr (fun j => mRf G (gr M a j))))))) (by rw [mPl_get ha, mEn_r hk (by omega)])
    rw [vp_cell_q] at hcell
    refine W.aald (v := va_rf (mRf G (gr M a i.toNat))) (ty := .array .int) hx.1 hx.2.1 hcell ((hx.2.2.2.2.2.2.2.1.1.2 8 _ rfl).1 _ _) rfl (fun q => by cases q) (by rw [arrV_size]; exact hin) (by rw [arrV_read _ _ hlt, i32_nat hir]) rfl rfl hd hw
theorem sn_alen {F : mF} {I : mI} {pc n : Nat} (hd : decode I.2.1 pc = .ok (.arraylength, 1)) (hn : pc + 1 = n) : mSnd F I pc (o_alen n) := by
  subst hn
  refine sn_push (n := pc + 1) fun CC ls st M r h => ?_
  obtain ⟨a, st', rfl, h0, h1, h2⟩ := h
  refine ⟨_, h2, fun hok => ⟨fun v hv => ?_, ?_⟩⟩
  · rcases List.mem_cons.mp hv with rfl | hv
    · have := hok.1.2.2.2 a
      show inR _
      unfold inR
      omega
    · exact hok.2.1 v (List.mem_cons_of_mem _ hv)
  · intro p l e R s m args below meth cd Q G d H locs lm cells slots hx hP hl2 hw
    have ha : a < nx M := mLt hok.1 rfl (by omega)
    have hv : Int32.ofNat (ln M a) = Int32.ofInt (ln M a) := Int32.ofInt_eq_ofNat.symm
    have hK := hx.2.2.2.2.2.2.2.1.1
    by_cases h15 : kd M a = 15
    · exact va_alen hx.1 hx.2.1 hK hP a 2 (by rw [mPl_get ha, mEn_l h15]) rfl hv hd hw
    · by_cases h17 : kd M a < 17
      · by_cases h13 : kd M a = 13
        · exact va_alen hx.1 hx.2.1 hK hP a 0 (by rw [mPl_get ha, mEn_i h13 (by omega)]) rfl hv hd hw
        · by_cases h14 : kd M a = 14
          · exact va_alen hx.1 hx.2.1 hK hP a 1 (by rw [mPl_get ha, mEn_i h14 (by omega)]) rfl hv hd hw
          · have h16 : kd M a = 16 := by omega
            exact va_alen hx.1 hx.2.1 hK hP a 3 (by rw [mPl_get ha, mEn_i h16 (by omega)]) rfl hv hd hw
      · rcases (show kd M a = 17 ∨ kd M a = 18 ∨ kd M a = 19 ∨ kd M a = 20 ∨ kd M a = 21 by omega) with q | q | q | q | q
        · exact va_alen hx.1 hx.2.1 hK hP a 4 (by rw [mPl_get ha, mEn_r q (by omega)]) rfl hv hd hw
        · exact va_alen hx.1 hx.2.1 hK hP a 5 (by rw [mPl_get ha, mEn_r q (by omega)]) rfl hv hd hw
        · exact va_alen hx.1 hx.2.1 hK hP a 6 (by rw [mPl_get ha, mEn_r q (by omega)]) rfl hv hd hw
        · exact va_alen hx.1 hx.2.1 hK hP a 7 (by rw [mPl_get ha, mEn_r q (by omega)]) rfl hv hd hw
        · exact va_alen hx.1 hx.2.1 hK hP a 8 (by rw [mPl_get ha, mEn_r q (by omega)]) rfl hv hd hw
theorem mArrSet {G : mG} {M : mM} {a i : Nat} {z : Int} {cA : ClassId} : (arrV cA (ln M a) (fun j => .int (Int32.ofInt (gi M a j)))).setSlot i (.int (Int32.ofInt z)) = arrV cA (ln (si M a i z) a) (fun j => .int (Int32.ofInt (gi (si M a i z) a j))) := by
  rw [arrV_store]
  show arrV cA (ln M a) _ = arrV cA (ln M a) _
  congr 1
  funext q
  by_cases hq : q = i
  · subst hq
    simp [updV, gi_si]
  · simp [updV, gi_si, hq]
theorem sn_iast {F : mF} {I : mI} {pc n : Nat} (hd : decode I.2.1 pc = .ok (.iastore, 1)) (hn : pc + 1 = n) : mSnd F I pc (o_iast n) := by
  subst hn
  refine sn_mem0 (n := pc + 1) fun CC ls st M r h => ?_
  obtain ⟨a, i, z, st', rfl, hk, h0, h1, h2⟩ := h
  refine ⟨_, _, h2, fun hok => ?_⟩
  have hz : inR z := hok.2.1 (vi z) List.mem_cons_self
  have hir : inR i := hok.2.1 (vi i) (List.mem_cons_of_mem _ List.mem_cons_self)
  have ha : a < nx M := mLt hok.1 hk (by omega)
  refine ⟨wf_si hok.1 (fun _ => hz) (fun q => by omega), fun v hv => hok.2.1 v (List.mem_cons_of_mem _ (List.mem_cons_of_mem _ (List.mem_cons_of_mem _ hv))), rfl, rfl, ?_⟩
  intro p l e R s m args below meth cd Q G d H locs lm cells slots hx hP hzz hS hlm hw
  have hcell : H[G.1 + a]? = some (vp_cell (G.2.2 14) (ln M a, .inl (fun j => Int32.ofInt (gi M a j)))) := hP a (G.1 + a, .inl (G.2.2 14, ln M a, .inl (fun j => Int32.ofInt (gi M a j)))) (by rw [mPl_get ha, mEn_i hk (by omega)])
  rw [vp_cell_i] at hcell
  refine W.iast hx.1 hx.2.1 hcell ((hx.2.2.2.2.2.2.2.1.1.2 1 _ rfl).1 _ _) (fun q => by cases q) (by rw [arrV_size]; exact i32_in hir h0 h1) rfl rfl hd fun H1 e1 z1 o1 => ?_
  rw [i32_nat hir, mArrSet (G := G)] at e1
  exact hw H1 _ (mPl_put hP rfl (fun b hb => mEn_si hb) (by rw [mEn_i (M := si M a i.toNat z) (k := 14) hk (by omega)]; exact e1) o1) (z1.trans hzz) (hS.put z1 o1 (Nat.le_add_right _ _))
theorem sn_bast {F : mF} {I : mI} {pc n : Nat} (hd : decode I.2.1 pc = .ok (.bastore, 1)) (hn : pc + 1 = n) : mSnd F I pc (o_bast n) := by
  subst hn
  refine sn_mem0 (n := pc + 1) fun CC ls st M r h => ?_
  obtain ⟨a, i, z, st', rfl, hk, h0, h1, h2⟩ := h
  refine ⟨_, _, h2, fun hok => ?_⟩
  have hir : inR i := hok.2.1 (vi i) (List.mem_cons_of_mem _ List.mem_cons_self)
  have ha : a < nx M := mLt hok.1 hk (by omega)
  refine ⟨wf_si hok.1 (fun _ => inR_wb z) (fun q => by omega), fun v hv => hok.2.1 v (List.mem_cons_of_mem _ (List.mem_cons_of_mem _ (List.mem_cons_of_mem _ hv))), rfl, rfl, ?_⟩
  intro p l e R s m args below meth cd Q G d H locs lm cells slots hx hP hzz hS hlm hw
  have hcell : H[G.1 + a]? = some (vp_cell (G.2.2 13) (ln M a, .inl (fun j => Int32.ofInt (gi M a j)))) := hP a (G.1 + a, .inl (G.2.2 13, ln M a, .inl (fun j => Int32.ofInt (gi M a j)))) (by rw [mPl_get ha, mEn_i hk (by omega)])
  rw [vp_cell_i] at hcell
  refine W.bast hx.1 hx.2.1 hcell ((hx.2.2.2.2.2.2.2.1.1.2 0 _ rfl).1 _ _) (fun q => by cases q) (by rw [arrV_size]; exact i32_in hir h0 h1) rfl rfl hd fun H1 e1 z1 o1 => ?_
  have hb : narrow .byte (.int (Int32.ofInt z)) = .int (Int32.ofInt (wb z)) := by
    rw [narrow_byte, Int32.toInt8_ofInt]
    exact congrArg Value.int (Int32.ofInt_int8ToInt _).symm
  rw [i32_nat hir, hb, mArrSet (G := G)] at e1
  exact hw H1 _ (mPl_put hP rfl (fun b hb => mEn_si hb) (by rw [mEn_i (M := si M a i.toNat (wb z)) (k := 13) hk (by omega)]; exact e1) o1) (z1.trans hzz) (hS.put z1 o1 (Nat.le_add_right _ _))
theorem sn_zast {F : mF} {I : mI} {pc n : Nat} (hd : decode I.2.1 pc = .ok (.bastore, 1)) (hn : pc + 1 = n) : mSnd F I pc (o_zast n) := by
  subst hn
  refine sn_mem0 (n := pc + 1) fun CC ls st M r h => ?_
  obtain ⟨a, i, z, st', rfl, hk, h0, h1, hb, h2⟩ := h
  refine ⟨_, _, h2, fun hok => ?_⟩
  have hz : inR z := hok.2.1 (vi z) List.mem_cons_self
  have hir : inR i := hok.2.1 (vi i) (List.mem_cons_of_mem _ List.mem_cons_self)
  have ha : a < nx M := mLt hok.1 hk (by omega)
  refine ⟨wf_si hok.1 (fun _ => hz) (fun q => by omega), fun v hv => hok.2.1 v (List.mem_cons_of_mem _ (List.mem_cons_of_mem _ (List.mem_cons_of_mem _ hv))), rfl, rfl, ?_⟩
  intro p l e R s m args below meth cd Q G d H locs lm cells slots hx hP hzz hS hlm hw
  have hcell : H[G.1 + a]? = some (vp_cell (G.2.2 16) (ln M a, .inl (fun j => Int32.ofInt (gi M a j)))) := hP a (G.1 + a, .inl (G.2.2 16, ln M a, .inl (fun j => Int32.ofInt (gi M a j)))) (by rw [mPl_get ha, mEn_i hk (by omega)])
  rw [vp_cell_i] at hcell
  refine W.zast hx.1 hx.2.1 hcell ((hx.2.2.2.2.2.2.2.1.1.2 3 _ rfl).1 _ _) (fun q => by cases q) (by rw [arrV_size]; exact i32_in hir h0 h1) rfl rfl hd fun H1 e1 z1 o1 => ?_
  have hb2 : narrow .boolean (.int (Int32.ofInt z)) = .int (Int32.ofInt z) := (nar_z hb).1
  rw [i32_nat hir, hb2, mArrSet (G := G)] at e1
  exact hw H1 _ (mPl_put hP rfl (fun b hb => mEn_si hb) (by rw [mEn_i (M := si M a i.toNat z) (k := 16) hk (by omega)]; exact e1) o1) (z1.trans hzz) (hS.put z1 o1 (Nat.le_add_right _ _))
theorem sn_last {F : mF} {I : mI} {pc n : Nat} (hd : decode I.2.1 pc = .ok (.lastore, 1)) (hn : pc + 1 = n) : mSnd F I pc (o_last n) := by
  subst hn
  refine sn_mem0 (n := pc + 1) fun CC ls st M r h => ?_
  obtain ⟨a, i, z, st', rfl, hk, h0, h1, h2⟩ := h
  refine ⟨_, _, h2, fun hok => ?_⟩
  have hz : inL z := hok.2.1 (vl z) List.mem_cons_self
  have hir : inR i := hok.2.1 (vi i) (List.mem_cons_of_mem _ List.mem_cons_self)
  have ha : a < nx M := mLt hok.1 hk (by omega)
  refine ⟨wf_si hok.1 (fun q => absurd hk q) (fun _ => hz), fun v hv => hok.2.1 v (List.mem_cons_of_mem _ (List.mem_cons_of_mem _ (List.mem_cons_of_mem _ hv))), rfl, rfl, ?_⟩
  intro p l e R s m args below meth cd Q G d H locs lm cells slots hx hP hzz hS hlm hw
  have hcell : H[G.1 + a]? = some (vp_cell (G.2.2 15) (ln M a, .inr (.inl (fun j => Int64.ofInt (gi M a j))))) := hP a (G.1 + a, .inl (G.2.2 15, ln M a, .inr (.inl (fun j => Int64.ofInt (gi M a j))))) (by rw [mPl_get ha, mEn_l hk])
  rw [vp_cell_l] at hcell
  refine W.last hx.1 hx.2.1 hcell ((hx.2.2.2.2.2.2.2.1.1.2 2 _ rfl).1 _ _) (fun q => by cases q) (by rw [arrV_size]; exact i32_in hir h0 h1) rfl rfl hd fun H1 e1 z1 o1 => ?_
  rw [i32_nat hir, arrV_store] at e1
  refine hw H1 _ (mPl_put hP rfl (fun b hb => mEn_si hb) ?_ o1) (z1.trans hzz) (hS.put z1 o1 (Nat.le_add_right _ _))
  rw [mEn_l (M := si M a i.toNat z) hk]
  show H1[G.1 + a]? = some (vp_cell _ _)
  rw [e1, vp_cell_l]
  show some (arrV _ (ln M a) _) = some (arrV _ (ln M a) _)
  congr 2
  funext q
  by_cases hq : q = i.toNat
  · subst hq
    simp [updV, gi_si]
  · simp [updV, gi_si, hq]
theorem sn_rast {F : mF} {I : mI} {pc n k c t0 N : Nat} {C : String} {T : u_T} (hc : mCl c C T N) (hk17 : 17 ≤ k ∧ k < 21) (ht : ∀ G : mG, (mTys G)[t0]? = some (G.2.2 k, .object C)) (hd : decode I.2.1 pc = .ok (.aastore, 1)) (hn : pc + 1 = n) : mSnd F I pc (o_rast k c n) := by
  subst hn
  refine sn_mem0 (n := pc + 1) fun CC ls st M r h => ?_
  obtain ⟨a, i, b, st', rfl, hk, hkb, h0, h1, h2⟩ := h
  refine ⟨_, _, h2, fun hok => ?_⟩
  have hir : inR i := hok.2.1 (vi i) (List.mem_cons_of_mem _ List.mem_cons_self)
  have ha : a < nx M := mLt hok.1 hk (by omega)
  have hbl : b < nx M := mLt hok.1 hkb (by have := hc.1; omega)
  refine ⟨wf_sr hok.1, fun v hv => hok.2.1 v (List.mem_cons_of_mem _ (List.mem_cons_of_mem _ (List.mem_cons_of_mem _ hv))), rfl, rfl, ?_⟩
  intro p l e R s m args below meth cd Q G d H locs lm cells slots hx hP hzz hS hlm hw
  have hK := hx.2.2.2.2.2.2.2.1.1
  have hcell : H[G.1 + a]? = some (vp_cell (G.2.2 k) (ln M a, .inr (.inr (.inr (.inr (fun j => mRf G (gr M a j))))))) := hP a (G.1 + a, .inl (G.2.2 k, ln M a, .inr (.inr (.inr (.inr (fun j => mRf G (gr M a j))))))) (by rw [mPl_get ha, mEn_r hk hk17.1])
  rw [vp_cell_q] at hcell
  have hin := i32_in hir h0 h1
  have hlt : (Int32.ofInt i).toNatClampNeg < ln M a := Nat.not_le.mp fun q => hin (Or.inr q)
  obtain ⟨r', hr', cellV, g1, g2, g3, -⟩ := hP b (G.1 + b, .inr (c, mFs G M b)) (by rw [mPl_get hbl, mEn_o hkb hc.1])
  have hcls := (hK.1 c _ hc.2.1).2
  obtain ⟨kA, comp, k1, k2, k3, -⟩ := (hK.2 t0 _ (ht G)).2
  have hcomp : comp = G.2.1.1 c := Option.some.inj (k3.symm.trans hcls.1)
  subst hcomp
  obtain ⟨kC, hkC, -⟩ := hcls.2
  refine W.aast hx.1 hx.2.1 hcell (fun q h => by cases h) (fun h => by cases h) k1 k2 rfl hkC ⟨fun q => hin (Or.inl q), by rw [arrV_size]; exact hlt⟩ g1 (fun q h => by rw [g3] at h; cases h) (by rw [g2]; exact hkC) (by rw [g2]; exact va_assign hcls) rfl rfl hd fun H1 e1 z1 o1 => ?_
  rw [i32_nat hir, arrV_store] at e1
  refine hw H1 _ (mPl_put hP rfl (fun b hb => mEn_sr hb) ?_ o1) (z1.trans hzz) (hS.put z1 o1 (Nat.le_add_right _ _))
  rw [mEn_r (M := sr M a i.toNat (some b)) (k := k) hk hk17.1]
  show H1[G.1 + a]? = some (vp_cell _ _)
  rw [e1, vp_cell_q]
  show some (arrV _ (ln M a) _) = some (arrV _ (ln M a) _)
  congr 2
  funext q
  by_cases hq : q = i.toNat
  · subst hq
    simp [updV, gr_sr, mRf, va_rf]
  · simp [updV, gr_sr, hq]
