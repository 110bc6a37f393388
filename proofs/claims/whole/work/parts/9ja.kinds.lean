/-! ===== no run changes the kind of a cell that is there ===== -/
def kK (M N : mM) : Prop := nx M ≤ nx N ∧ ∀ a, a < nx M → kd N a = kd M a
def kR (M : mM) (r : mR) : Prop := match r with
  | .inl x => kK M x.2.2.2
  | .inr q => kK M q.2
def KP (o : mO) : Prop := ∀ C : mC, (∀ y as M r, C y as M r → kK M r.2) → ∀ ls st M r, o C ls st M r → kR M r
theorem kK_r (M : mM) : kK M M := ⟨Nat.le_refl _, fun _ _ => rfl⟩
theorem kK_si (M : mM) (a i : Nat) (z : Int) : kK M (si M a i z) := ⟨Nat.le_refl _, fun _ _ => rfl⟩
theorem kK_sr (M : mM) (a i : Nat) (z : Option Nat) : kK M (sr M a i z) := ⟨Nat.le_refl _, fun _ _ => rfl⟩
theorem kK_sw (M : mM) (a : Nat) (f : Nat → Int) : kK M (sw M a f) := ⟨Nat.le_refl _, fun _ _ => rfl⟩
theorem kK_al (M : mM) (k n w : Nat) : kK M (al M k n w) := ⟨Nat.le_succ _, fun a ha => if_neg (Nat.ne_of_lt ha)⟩
theorem kK_al2 (M : mM) (n w : Nat) : kK M (al2 M n w) := ⟨by show nx M ≤ nx M + 1 + n; omega, fun a ha => by
  show (if a = nx M then 21 else if nx M ≤ a ∧ a ≤ nx M + n then 14 else kd M a) = _
  rw [if_neg (Nat.ne_of_lt ha), if_neg (by omega)]⟩
theorem kK.trans {M N R : mM} (h1 : kK M N) (h2 : kK N R) : kK M R := ⟨Nat.le_trans h1.1 h2.1, fun a ha => (h2.2 a (Nat.lt_of_lt_of_le ha h1.1)).trans (h1.2 a ha)⟩
theorem kp_stuck : KP o_stuck := fun _ _ _ _ _ _ h => h.elim
theorem kp_const {v : mV} {n : Nat} : KP (o_const v n) := fun C hC ls st M r h => by
  cases h
  exact kK_r _
theorem kp_iload {k n : Nat} : KP (o_iload k n) := fun C hC ls st M r h => by
  obtain ⟨_, _, rfl⟩ := h
  exact kK_r _
theorem kp_lload {k n : Nat} : KP (o_lload k n) := fun C hC ls st M r h => by
  obtain ⟨_, _, rfl⟩ := h
  exact kK_r _
theorem kp_aload {k n : Nat} : KP (o_aload k n) := fun C hC ls st M r h => by
  obtain ⟨_, _, rfl⟩ := h
  exact kK_r _
theorem kp_istore {k n : Nat} : KP (o_istore k n) := fun C hC ls st M r h => by
  obtain ⟨_, _, _, _, _, rfl⟩ := h
  exact kK_r _
theorem kp_astore {k n : Nat} : KP (o_astore k n) := fun C hC ls st M r h => by
  obtain ⟨_, _, _, _, _, rfl⟩ := h
  exact kK_r _
theorem kp_lstore {k n : Nat} : KP (o_lstore k n) := fun C hC ls st M r h => by
  obtain ⟨_, _, _, _, _, rfl⟩ := h
  exact kK_r _
theorem kp_iinc {k : Nat} {d : Int} {n : Nat} : KP (o_iinc k d n) := fun C hC ls st M r h => by
  obtain ⟨_, _, _, rfl⟩ := h
  exact kK_r _
theorem kp_bin {f : Int32 → Int32 → Int32} {n : Nat} : KP (o_bin f n) := fun C hC ls st M r h => by
  obtain ⟨_, _, _, _, rfl⟩ := h
  exact kK_r _
theorem kp_lbin {f : Int64 → Int64 → Int64} {n : Nat} : KP (o_lbin f n) := fun C hC ls st M r h => by
  obtain ⟨_, _, _, _, rfl⟩ := h
  exact kK_r _
theorem kp_un {f : Int → Int} {n : Nat} : KP (o_un f n) := fun C hC ls st M r h => by
  obtain ⟨_, _, _, rfl⟩ := h
  exact kK_r _
theorem kp_i2l {n : Nat} : KP (o_i2l n) := fun C hC ls st M r h => by
  obtain ⟨_, _, _, rfl⟩ := h
  exact kK_r _
theorem kp_lcmp {n : Nat} : KP (o_lcmp n) := fun C hC ls st M r h => by
  obtain ⟨_, _, _, _, rfl⟩ := h
  exact kK_r _
theorem kp_dup {n : Nat} : KP (o_dup n) := fun C hC ls st M r h => by
  obtain ⟨_, _, _, _, rfl⟩ := h
  exact kK_r _
theorem kp_dup2 {n : Nat} : KP (o_dup2 n) := fun C hC ls st M r h => by
  obtain ⟨_, _, _, _, _, _, rfl⟩ := h
  exact kK_r _
theorem kp_goto {n : Nat} : KP (o_goto n) := fun C hC ls st M r h => by
  cases h
  exact kK_r _
theorem kp_if {k t n : Nat} : KP (o_if k t n) := fun C hC ls st M r h => by
  obtain ⟨_, _, _, ⟨_, rfl⟩ | ⟨_, rfl⟩⟩ := h
  · exact kK_r _
  · exact kK_r _
theorem kp_icmp {k t n : Nat} : KP (o_icmp k t n) := fun C hC ls st M r h => by
  obtain ⟨_, _, _, _, ⟨_, rfl⟩ | ⟨_, rfl⟩⟩ := h
  · exact kK_r _
  · exact kK_r _
theorem kp_ifnull {t n : Nat} : KP (o_ifnull t n) := fun C hC ls st M r h => by
  obtain ⟨_, _, _, ⟨_, rfl⟩ | ⟨_, rfl⟩⟩ := h
  · exact kK_r _
  · exact kK_r _
theorem kp_sw {ps : List (Int × Nat)} {d : Nat} : KP (o_sw ps d) := fun C hC ls st M r h => by
  obtain ⟨_, _, _, rfl⟩ := h
  exact kK_r _
theorem kp_geti {c f n : Nat} : KP (o_geti c f n) := fun C hC ls st M r h => by
  obtain ⟨_, _, _, _, rfl⟩ := h
  exact kK_r _
theorem kp_getr {c f n : Nat} : KP (o_getr c f n) := fun C hC ls st M r h => by
  obtain ⟨_, _, _, _, rfl⟩ := h
  exact kK_r _
theorem kp_puti {c f n : Nat} : KP (o_puti c f n) := fun C hC ls st M r h => by
  obtain ⟨_, _, _, _, _, rfl⟩ := h
  exact kK_si _ _ _ _
theorem kp_putz {c f n : Nat} : KP (o_putz c f n) := fun C hC ls st M r h => by
  obtain ⟨_, _, _, _, _, _, rfl⟩ := h
  exact kK_si _ _ _ _
theorem kp_putr {c f n : Nat} : KP (o_putr c f n) := fun C hC ls st M r h => by
  obtain ⟨_, _, _, _, _, rfl⟩ := h
  exact kK_sr _ _ _ _
theorem kp_ald {k n : Nat} : KP (o_ald k n) := fun C hC ls st M r h => by
  obtain ⟨_, _, _, _, _, _, _, rfl⟩ := h
  exact kK_r _
theorem kp_lald {n : Nat} : KP (o_lald n) := fun C hC ls st M r h => by
  obtain ⟨_, _, _, _, _, _, _, rfl⟩ := h
  exact kK_r _
theorem kp_rald {k n : Nat} : KP (o_rald k n) := fun C hC ls st M r h => by
  obtain ⟨_, _, _, _, _, _, _, rfl⟩ := h
  exact kK_r _
theorem kp_iast {n : Nat} : KP (o_iast n) := fun C hC ls st M r h => by
  obtain ⟨_, _, _, _, _, _, _, _, rfl⟩ := h
  exact kK_si _ _ _ _
theorem kp_bast {n : Nat} : KP (o_bast n) := fun C hC ls st M r h => by
  obtain ⟨_, _, _, _, _, _, _, _, rfl⟩ := h
  exact kK_si _ _ _ _
theorem kp_zast {n : Nat} : KP (o_zast n) := fun C hC ls st M r h => by
  obtain ⟨_, _, _, _, _, _, _, _, _, rfl⟩ := h
  exact kK_si _ _ _ _
theorem kp_last {n : Nat} : KP (o_last n) := fun C hC ls st M r h => by
  obtain ⟨_, _, _, _, _, _, _, _, rfl⟩ := h
  exact kK_si _ _ _ _
theorem kp_rast {k c n : Nat} : KP (o_rast k c n) := fun C hC ls st M r h => by
  obtain ⟨_, _, _, _, _, _, _, _, _, rfl⟩ := h
  exact kK_sr _ _ _ _
theorem kp_alen {n : Nat} : KP (o_alen n) := fun C hC ls st M r h => by
  obtain ⟨_, _, _, _, _, rfl⟩ := h
  exact kK_r _
theorem kp_new {c w n : Nat} : KP (o_new c w n) := fun C hC ls st M r h => by
  cases h
  exact kK_al _ _ _ _
theorem kp_newa {k n : Nat} : KP (o_newa k n) := fun C hC ls st M r h => by
  obtain ⟨_, _, _, _, _, rfl⟩ := h
  exact kK_al _ _ _ _
theorem kp_mna {n : Nat} : KP (o_mna n) := fun C hC ls st M r h => by
  obtain ⟨_, _, _, _, _, _, _, _, rfl⟩ := h
  exact kK_al2 _ _ _
theorem kp_objinit {n : Nat} : KP (o_objinit n) := fun C hC ls st M r h => by
  obtain ⟨_, _, _, _, rfl⟩ := h
  exact kK_r _
theorem kp_call {y k : Nat} {b : Bool} {n : Nat} : KP (o_call y k b n) := fun C hC ls st M r h => by
  obtain ⟨_, _, _, _, _, _, _, hcc, _, rfl⟩ := h
  exact hC _ _ _ _ hcc
theorem kp_callv {y c k : Nat} {b : Bool} {n : Nat} : KP (o_callv y c k b n) := fun C hC ls st M r h => by
  obtain ⟨_, _, _, _, _, _, _, _, _, hcc, _, rfl⟩ := h
  exact hC _ _ _ _ hcc
theorem kp_copy {n : Nat} : KP (o_copy n) := fun C hC ls st M r h => by
  obtain ⟨_, _, _, _, _, _, _, _, _, _, _, _, _, _, _, _, rfl⟩ := h
  exact kK_sw _ _ _
theorem kp_iret  : KP (o_iret ) := fun C hC ls st M r h => by
  obtain ⟨_, _, rfl⟩ := h
  exact kK_r _
theorem kp_zret  : KP (o_zret ) := fun C hC ls st M r h => by
  obtain ⟨_, _, _, rfl⟩ := h
  exact kK_r _
theorem kp_lret  : KP (o_lret ) := fun C hC ls st M r h => by
  obtain ⟨_, _, rfl⟩ := h
  exact kK_r _
theorem kp_aret  : KP (o_aret ) := fun C hC ls st M r h => by
  obtain ⟨_, _, rfl⟩ := h
  exact kK_r _
theorem kp_vret  : KP (o_vret ) := fun C hC ls st M r h => by
  obtain ⟨_, rfl⟩ := h
  exact kK_r _
theorem kp_kow  : KP (o_kow ) := fun C hC ls st M r h => by
  obtain ⟨_, _, _, _, _, _, _, _, _, _, rfl⟩ := h
  exact kK_r _
theorem kp_mm {f : Int → Int → Int} {n : Nat} : KP (o_mm f n) := fun C hC ls st M r h => by
  obtain ⟨_, _, _, _, _, rfl⟩ := h
  exact kK_r _
theorem kqX0_init : ∀ q ∈ tX0_init, KP q.2 := by
  unfold tX0_init
  refine List.forall_mem_cons.mpr ⟨kp_aload, ?_⟩
  refine List.forall_mem_cons.mpr ⟨kp_objinit, ?_⟩
  refine List.forall_mem_cons.mpr ⟨kp_vret, ?_⟩
  exact List.forall_mem_nil _
theorem kqX0_fill : ∀ q ∈ tX0_fill, KP q.2 := by
  unfold tX0_fill
  refine List.forall_mem_cons.mpr ⟨kp_aload, ?_⟩
  refine List.forall_mem_cons.mpr ⟨kp_aload, ?_⟩
  refine List.forall_mem_cons.mpr ⟨kp_geti, ?_⟩
  refine List.forall_mem_cons.mpr ⟨kp_puti, ?_⟩
  refine List.forall_mem_cons.mpr ⟨kp_aload, ?_⟩
  refine List.forall_mem_cons.mpr ⟨kp_aload, ?_⟩
  refine List.forall_mem_cons.mpr ⟨kp_geti, ?_⟩
  refine List.forall_mem_cons.mpr ⟨kp_puti, ?_⟩
  refine List.forall_mem_cons.mpr ⟨kp_aload, ?_⟩
  refine List.forall_mem_cons.mpr ⟨kp_aload, ?_⟩
  refine List.forall_mem_cons.mpr ⟨kp_geti, ?_⟩
  refine List.forall_mem_cons.mpr ⟨kp_puti, ?_⟩
  refine List.forall_mem_cons.mpr ⟨kp_aload, ?_⟩
  refine List.forall_mem_cons.mpr ⟨kp_aload, ?_⟩
  refine List.forall_mem_cons.mpr ⟨kp_geti, ?_⟩
  refine List.forall_mem_cons.mpr ⟨kp_puti, ?_⟩
  refine List.forall_mem_cons.mpr ⟨kp_aload, ?_⟩
  refine List.forall_mem_cons.mpr ⟨kp_aload, ?_⟩
  refine List.forall_mem_cons.mpr ⟨kp_geti, ?_⟩
  refine List.forall_mem_cons.mpr ⟨kp_puti, ?_⟩
  refine List.forall_mem_cons.mpr ⟨kp_aload, ?_⟩
  refine List.forall_mem_cons.mpr ⟨kp_aload, ?_⟩
  refine List.forall_mem_cons.mpr ⟨kp_geti, ?_⟩
  refine List.forall_mem_cons.mpr ⟨kp_puti, ?_⟩
  refine List.forall_mem_cons.mpr ⟨kp_aload, ?_⟩
  refine List.forall_mem_cons.mpr ⟨kp_iload, ?_⟩
  refine List.forall_mem_cons.mpr ⟨kp_puti, ?_⟩
  refine List.forall_mem_cons.mpr ⟨kp_aload, ?_⟩
  refine List.forall_mem_cons.mpr ⟨kp_aload, ?_⟩
  refine List.forall_mem_cons.mpr ⟨kp_geti, ?_⟩
  refine List.forall_mem_cons.mpr ⟨kp_aload, ?_⟩
  refine List.forall_mem_cons.mpr ⟨kp_geti, ?_⟩
  refine List.forall_mem_cons.mpr ⟨kp_bin (f := fun x y => x - y), ?_⟩
  refine List.forall_mem_cons.mpr ⟨kp_const, ?_⟩
  refine List.forall_mem_cons.mpr ⟨kp_mm, ?_⟩
  refine List.forall_mem_cons.mpr ⟨kp_puti, ?_⟩
  refine List.forall_mem_cons.mpr ⟨kp_aload, ?_⟩
  refine List.forall_mem_cons.mpr ⟨kp_aload, ?_⟩
  refine List.forall_mem_cons.mpr ⟨kp_geti, ?_⟩
  refine List.forall_mem_cons.mpr ⟨kp_aload, ?_⟩
  refine List.forall_mem_cons.mpr ⟨kp_geti, ?_⟩
  refine List.forall_mem_cons.mpr ⟨kp_bin (f := fun x y => x + y), ?_⟩
  refine List.forall_mem_cons.mpr ⟨kp_const, ?_⟩
  refine List.forall_mem_cons.mpr ⟨kp_mm, ?_⟩
  refine List.forall_mem_cons.mpr ⟨kp_puti, ?_⟩
  refine List.forall_mem_cons.mpr ⟨kp_vret, ?_⟩
  exact List.forall_mem_nil _
theorem kqX0_span : ∀ q ∈ tX0_span, KP q.2 := by
  unfold tX0_span
  refine List.forall_mem_cons.mpr ⟨kp_aload, ?_⟩
  refine List.forall_mem_cons.mpr ⟨kp_geti, ?_⟩
  refine List.forall_mem_cons.mpr ⟨kp_aload, ?_⟩
  refine List.forall_mem_cons.mpr ⟨kp_geti, ?_⟩
  refine List.forall_mem_cons.mpr ⟨kp_bin (f := fun x y => x - y), ?_⟩
  refine List.forall_mem_cons.mpr ⟨kp_iret, ?_⟩
  exact List.forall_mem_nil _
theorem kqX0_spansSlot : ∀ q ∈ tX0_spansSlot, KP q.2 := by
  unfold tX0_spansSlot
  refine List.forall_mem_cons.mpr ⟨kp_aload, ?_⟩
  refine List.forall_mem_cons.mpr ⟨kp_geti, ?_⟩
  refine List.forall_mem_cons.mpr ⟨kp_iload, ?_⟩
  refine List.forall_mem_cons.mpr ⟨kp_icmp, ?_⟩
  refine List.forall_mem_cons.mpr ⟨kp_iload, ?_⟩
  refine List.forall_mem_cons.mpr ⟨kp_aload, ?_⟩
  refine List.forall_mem_cons.mpr ⟨kp_geti, ?_⟩
  refine List.forall_mem_cons.mpr ⟨kp_icmp, ?_⟩
  refine List.forall_mem_cons.mpr ⟨kp_const, ?_⟩
  refine List.forall_mem_cons.mpr ⟨kp_goto, ?_⟩
  refine List.forall_mem_cons.mpr ⟨kp_const, ?_⟩
  refine List.forall_mem_cons.mpr ⟨kp_zret, ?_⟩
  exact List.forall_mem_nil _
theorem kqX0_meets : ∀ q ∈ tX0_meets, KP q.2 := by
  unfold tX0_meets
  refine List.forall_mem_cons.mpr ⟨kp_aload, ?_⟩
  refine List.forall_mem_cons.mpr ⟨kp_geti, ?_⟩
  refine List.forall_mem_cons.mpr ⟨kp_aload, ?_⟩
  refine List.forall_mem_cons.mpr ⟨kp_geti, ?_⟩
  refine List.forall_mem_cons.mpr ⟨kp_icmp, ?_⟩
  refine List.forall_mem_cons.mpr ⟨kp_aload, ?_⟩
  refine List.forall_mem_cons.mpr ⟨kp_geti, ?_⟩
  refine List.forall_mem_cons.mpr ⟨kp_aload, ?_⟩
  refine List.forall_mem_cons.mpr ⟨kp_geti, ?_⟩
  refine List.forall_mem_cons.mpr ⟨kp_icmp, ?_⟩
  refine List.forall_mem_cons.mpr ⟨kp_const, ?_⟩
  refine List.forall_mem_cons.mpr ⟨kp_goto, ?_⟩
  refine List.forall_mem_cons.mpr ⟨kp_const, ?_⟩
  refine List.forall_mem_cons.mpr ⟨kp_zret, ?_⟩
  exact List.forall_mem_nil _
theorem kqX0_isOneWith : ∀ q ∈ tX0_isOneWith, KP q.2 := by
  unfold tX0_isOneWith
  refine List.forall_mem_cons.mpr ⟨kp_aload, ?_⟩
  refine List.forall_mem_cons.mpr ⟨kp_geti, ?_⟩
  refine List.forall_mem_cons.mpr ⟨kp_aload, ?_⟩
  refine List.forall_mem_cons.mpr ⟨kp_geti, ?_⟩
  refine List.forall_mem_cons.mpr ⟨kp_icmp, ?_⟩
  refine List.forall_mem_cons.mpr ⟨kp_const, ?_⟩
  refine List.forall_mem_cons.mpr ⟨kp_goto, ?_⟩
  refine List.forall_mem_cons.mpr ⟨kp_const, ?_⟩
  refine List.forall_mem_cons.mpr ⟨kp_zret, ?_⟩
  exact List.forall_mem_nil _
theorem kqX0_isSameAs : ∀ q ∈ tX0_isSameAs, KP q.2 := by
  unfold tX0_isSameAs
  refine List.forall_mem_cons.mpr ⟨kp_aload, ?_⟩
  refine List.forall_mem_cons.mpr ⟨kp_geti, ?_⟩
  refine List.forall_mem_cons.mpr ⟨kp_aload, ?_⟩
  refine List.forall_mem_cons.mpr ⟨kp_geti, ?_⟩
  refine List.forall_mem_cons.mpr ⟨kp_icmp, ?_⟩
  refine List.forall_mem_cons.mpr ⟨kp_aload, ?_⟩
  refine List.forall_mem_cons.mpr ⟨kp_geti, ?_⟩
  refine List.forall_mem_cons.mpr ⟨kp_aload, ?_⟩
  refine List.forall_mem_cons.mpr ⟨kp_geti, ?_⟩
  refine List.forall_mem_cons.mpr ⟨kp_icmp, ?_⟩
  refine List.forall_mem_cons.mpr ⟨kp_aload, ?_⟩
  refine List.forall_mem_cons.mpr ⟨kp_geti, ?_⟩
  refine List.forall_mem_cons.mpr ⟨kp_aload, ?_⟩
  refine List.forall_mem_cons.mpr ⟨kp_geti, ?_⟩
  refine List.forall_mem_cons.mpr ⟨kp_icmp, ?_⟩
  refine List.forall_mem_cons.mpr ⟨kp_aload, ?_⟩
  refine List.forall_mem_cons.mpr ⟨kp_geti, ?_⟩
  refine List.forall_mem_cons.mpr ⟨kp_aload, ?_⟩
  refine List.forall_mem_cons.mpr ⟨kp_geti, ?_⟩
  refine List.forall_mem_cons.mpr ⟨kp_icmp, ?_⟩
  refine List.forall_mem_cons.mpr ⟨kp_const, ?_⟩
  refine List.forall_mem_cons.mpr ⟨kp_goto, ?_⟩
  refine List.forall_mem_cons.mpr ⟨kp_const, ?_⟩
  refine List.forall_mem_cons.mpr ⟨kp_zret, ?_⟩
  exact List.forall_mem_nil _
theorem kqX1_init : ∀ q ∈ tX1_init, KP q.2 := by
  unfold tX1_init
  refine List.forall_mem_cons.mpr ⟨kp_aload, ?_⟩
  refine List.forall_mem_cons.mpr ⟨kp_objinit, ?_⟩
  refine List.forall_mem_cons.mpr ⟨kp_aload, ?_⟩
  refine List.forall_mem_cons.mpr ⟨kp_const, ?_⟩
  refine List.forall_mem_cons.mpr ⟨kp_puti, ?_⟩
  refine List.forall_mem_cons.mpr ⟨kp_aload, ?_⟩
  refine List.forall_mem_cons.mpr ⟨kp_const, ?_⟩
  refine List.forall_mem_cons.mpr ⟨kp_puti, ?_⟩
  refine List.forall_mem_cons.mpr ⟨kp_aload, ?_⟩
  refine List.forall_mem_cons.mpr ⟨kp_const, ?_⟩
  refine List.forall_mem_cons.mpr ⟨kp_puti, ?_⟩
  refine List.forall_mem_cons.mpr ⟨kp_aload, ?_⟩
  refine List.forall_mem_cons.mpr ⟨kp_const, ?_⟩
  refine List.forall_mem_cons.mpr ⟨kp_const, ?_⟩
  refine List.forall_mem_cons.mpr ⟨kp_mna, ?_⟩
  refine List.forall_mem_cons.mpr ⟨kp_putr, ?_⟩
  refine List.forall_mem_cons.mpr ⟨kp_aload, ?_⟩
  refine List.forall_mem_cons.mpr ⟨kp_const, ?_⟩
  refine List.forall_mem_cons.mpr ⟨kp_newa, ?_⟩
  refine List.forall_mem_cons.mpr ⟨kp_putr, ?_⟩
  refine List.forall_mem_cons.mpr ⟨kp_aload, ?_⟩
  refine List.forall_mem_cons.mpr ⟨kp_const, ?_⟩
  refine List.forall_mem_cons.mpr ⟨kp_newa, ?_⟩
  refine List.forall_mem_cons.mpr ⟨kp_putr, ?_⟩
  refine List.forall_mem_cons.mpr ⟨kp_aload, ?_⟩
  refine List.forall_mem_cons.mpr ⟨kp_const, ?_⟩
  refine List.forall_mem_cons.mpr ⟨kp_newa, ?_⟩
  refine List.forall_mem_cons.mpr ⟨kp_putr, ?_⟩
  refine List.forall_mem_cons.mpr ⟨kp_vret, ?_⟩
  exact List.forall_mem_nil _
theorem kqX1_survey : ∀ q ∈ tX1_survey, KP q.2 := by
  unfold tX1_survey
  refine List.forall_mem_cons.mpr ⟨kp_iload, ?_⟩
  refine List.forall_mem_cons.mpr ⟨kp_aload, ?_⟩
  refine List.forall_mem_cons.mpr ⟨kp_geti, ?_⟩
  refine List.forall_mem_cons.mpr ⟨kp_icmp, ?_⟩
  refine List.forall_mem_cons.mpr ⟨kp_aload, ?_⟩
  refine List.forall_mem_cons.mpr ⟨kp_geti, ?_⟩
  refine List.forall_mem_cons.mpr ⟨kp_aload, ?_⟩
  refine List.forall_mem_cons.mpr ⟨kp_geti, ?_⟩
  refine List.forall_mem_cons.mpr ⟨kp_icmp, ?_⟩
  refine List.forall_mem_cons.mpr ⟨kp_vret, ?_⟩
  refine List.forall_mem_cons.mpr ⟨kp_aload, ?_⟩
  refine List.forall_mem_cons.mpr ⟨kp_iload, ?_⟩
  refine List.forall_mem_cons.mpr ⟨kp_puti, ?_⟩
  refine List.forall_mem_cons.mpr ⟨kp_aload, ?_⟩
  refine List.forall_mem_cons.mpr ⟨kp_aload, ?_⟩
  refine List.forall_mem_cons.mpr ⟨kp_geti, ?_⟩
  refine List.forall_mem_cons.mpr ⟨kp_aload, ?_⟩
  refine List.forall_mem_cons.mpr ⟨kp_getr, ?_⟩
  refine List.forall_mem_cons.mpr ⟨kp_alen, ?_⟩
  refine List.forall_mem_cons.mpr ⟨kp_mm, ?_⟩
  refine List.forall_mem_cons.mpr ⟨kp_puti, ?_⟩
  refine List.forall_mem_cons.mpr ⟨kp_const, ?_⟩
  refine List.forall_mem_cons.mpr ⟨kp_istore, ?_⟩
  refine List.forall_mem_cons.mpr ⟨kp_iload, ?_⟩
  refine List.forall_mem_cons.mpr ⟨kp_aload, ?_⟩
  refine List.forall_mem_cons.mpr ⟨kp_geti, ?_⟩
  refine List.forall_mem_cons.mpr ⟨kp_icmp, ?_⟩
  refine List.forall_mem_cons.mpr ⟨kp_aload, ?_⟩
  refine List.forall_mem_cons.mpr ⟨kp_getr, ?_⟩
  refine List.forall_mem_cons.mpr ⟨kp_iload, ?_⟩
  refine List.forall_mem_cons.mpr ⟨kp_rald, ?_⟩
  refine List.forall_mem_cons.mpr ⟨kp_const, ?_⟩
  refine List.forall_mem_cons.mpr ⟨kp_call, ?_⟩
  refine List.forall_mem_cons.mpr ⟨kp_iinc, ?_⟩
  refine List.forall_mem_cons.mpr ⟨kp_goto, ?_⟩
  refine List.forall_mem_cons.mpr ⟨kp_aload, ?_⟩
  refine List.forall_mem_cons.mpr ⟨kp_aload, ?_⟩
  refine List.forall_mem_cons.mpr ⟨kp_callv, ?_⟩
  refine List.forall_mem_cons.mpr ⟨kp_aload, ?_⟩
  refine List.forall_mem_cons.mpr ⟨kp_aload, ?_⟩
  refine List.forall_mem_cons.mpr ⟨kp_callv, ?_⟩
  refine List.forall_mem_cons.mpr ⟨kp_aload, ?_⟩
  refine List.forall_mem_cons.mpr ⟨kp_aload, ?_⟩
  refine List.forall_mem_cons.mpr ⟨kp_callv, ?_⟩
  refine List.forall_mem_cons.mpr ⟨kp_vret, ?_⟩
  exact List.forall_mem_nil _
theorem kqX1_factAt : ∀ q ∈ tX1_factAt, KP q.2 := by
  unfold tX1_factAt
  refine List.forall_mem_cons.mpr ⟨kp_iload, ?_⟩
  refine List.forall_mem_cons.mpr ⟨kp_if, ?_⟩
  refine List.forall_mem_cons.mpr ⟨kp_iload, ?_⟩
  refine List.forall_mem_cons.mpr ⟨kp_aload, ?_⟩
  refine List.forall_mem_cons.mpr ⟨kp_geti, ?_⟩
  refine List.forall_mem_cons.mpr ⟨kp_icmp, ?_⟩
  refine List.forall_mem_cons.mpr ⟨kp_iload, ?_⟩
  refine List.forall_mem_cons.mpr ⟨kp_if, ?_⟩
  refine List.forall_mem_cons.mpr ⟨kp_iload, ?_⟩
  refine List.forall_mem_cons.mpr ⟨kp_const, ?_⟩
  refine List.forall_mem_cons.mpr ⟨kp_icmp, ?_⟩
  refine List.forall_mem_cons.mpr ⟨kp_const, ?_⟩
  refine List.forall_mem_cons.mpr ⟨kp_iret, ?_⟩
  refine List.forall_mem_cons.mpr ⟨kp_aload, ?_⟩
  refine List.forall_mem_cons.mpr ⟨kp_getr, ?_⟩
  refine List.forall_mem_cons.mpr ⟨kp_iload, ?_⟩
  refine List.forall_mem_cons.mpr ⟨kp_rald, ?_⟩
  refine List.forall_mem_cons.mpr ⟨kp_iload, ?_⟩
  refine List.forall_mem_cons.mpr ⟨kp_ald, ?_⟩
  refine List.forall_mem_cons.mpr ⟨kp_iret, ?_⟩
  exact List.forall_mem_nil _
theorem kqX1_at : ∀ q ∈ tX1_at, KP q.2 := by
  unfold tX1_at
  refine List.forall_mem_cons.mpr ⟨kp_iload, ?_⟩
  refine List.forall_mem_cons.mpr ⟨kp_if, ?_⟩
  refine List.forall_mem_cons.mpr ⟨kp_iload, ?_⟩
  refine List.forall_mem_cons.mpr ⟨kp_aload, ?_⟩
  refine List.forall_mem_cons.mpr ⟨kp_geti, ?_⟩
  refine List.forall_mem_cons.mpr ⟨kp_icmp, ?_⟩
  refine List.forall_mem_cons.mpr ⟨kp_iload, ?_⟩
  refine List.forall_mem_cons.mpr ⟨kp_aload, ?_⟩
  refine List.forall_mem_cons.mpr ⟨kp_getr, ?_⟩
  refine List.forall_mem_cons.mpr ⟨kp_alen, ?_⟩
  refine List.forall_mem_cons.mpr ⟨kp_icmp, ?_⟩
  refine List.forall_mem_cons.mpr ⟨kp_aload, ?_⟩
  refine List.forall_mem_cons.mpr ⟨kp_getr, ?_⟩
  refine List.forall_mem_cons.mpr ⟨kp_iload, ?_⟩
  refine List.forall_mem_cons.mpr ⟨kp_rald, ?_⟩
  refine List.forall_mem_cons.mpr ⟨kp_goto, ?_⟩
  refine List.forall_mem_cons.mpr ⟨kp_const, ?_⟩
  refine List.forall_mem_cons.mpr ⟨kp_aret, ?_⟩
  exact List.forall_mem_nil _
theorem kqX1_firstDoubted : ∀ q ∈ tX1_firstDoubted, KP q.2 := by
  unfold tX1_firstDoubted
  refine List.forall_mem_cons.mpr ⟨kp_const, ?_⟩
  refine List.forall_mem_cons.mpr ⟨kp_istore, ?_⟩
  refine List.forall_mem_cons.mpr ⟨kp_iload, ?_⟩
  refine List.forall_mem_cons.mpr ⟨kp_aload, ?_⟩
  refine List.forall_mem_cons.mpr ⟨kp_geti, ?_⟩
  refine List.forall_mem_cons.mpr ⟨kp_icmp, ?_⟩
  refine List.forall_mem_cons.mpr ⟨kp_aload, ?_⟩
  refine List.forall_mem_cons.mpr ⟨kp_iload, ?_⟩
  refine List.forall_mem_cons.mpr ⟨kp_callv, ?_⟩
  refine List.forall_mem_cons.mpr ⟨kp_astore, ?_⟩
  refine List.forall_mem_cons.mpr ⟨kp_aload, ?_⟩
  refine List.forall_mem_cons.mpr ⟨kp_ifnull, ?_⟩
  refine List.forall_mem_cons.mpr ⟨kp_iload, ?_⟩
  refine List.forall_mem_cons.mpr ⟨kp_aload, ?_⟩
  refine List.forall_mem_cons.mpr ⟨kp_geti, ?_⟩
  refine List.forall_mem_cons.mpr ⟨kp_icmp, ?_⟩
  refine List.forall_mem_cons.mpr ⟨kp_aload, ?_⟩
  refine List.forall_mem_cons.mpr ⟨kp_aload, ?_⟩
  refine List.forall_mem_cons.mpr ⟨kp_callv, ?_⟩
  refine List.forall_mem_cons.mpr ⟨kp_if, ?_⟩
  refine List.forall_mem_cons.mpr ⟨kp_iload, ?_⟩
  refine List.forall_mem_cons.mpr ⟨kp_iret, ?_⟩
  refine List.forall_mem_cons.mpr ⟨kp_iinc, ?_⟩
  refine List.forall_mem_cons.mpr ⟨kp_goto, ?_⟩
  refine List.forall_mem_cons.mpr ⟨kp_const, ?_⟩
  refine List.forall_mem_cons.mpr ⟨kp_iret, ?_⟩
  exact List.forall_mem_nil _
theorem kqX1_layNotices : ∀ q ∈ tX1_layNotices, KP q.2 := by
  unfold tX1_layNotices
  refine List.forall_mem_cons.mpr ⟨kp_const, ?_⟩
  refine List.forall_mem_cons.mpr ⟨kp_istore, ?_⟩
  refine List.forall_mem_cons.mpr ⟨kp_iload, ?_⟩
  refine List.forall_mem_cons.mpr ⟨kp_aload, ?_⟩
  refine List.forall_mem_cons.mpr ⟨kp_geti, ?_⟩
  refine List.forall_mem_cons.mpr ⟨kp_icmp, ?_⟩
  refine List.forall_mem_cons.mpr ⟨kp_aload, ?_⟩
  refine List.forall_mem_cons.mpr ⟨kp_iload, ?_⟩
  refine List.forall_mem_cons.mpr ⟨kp_callv, ?_⟩
  refine List.forall_mem_cons.mpr ⟨kp_astore, ?_⟩
  refine List.forall_mem_cons.mpr ⟨kp_const, ?_⟩
  refine List.forall_mem_cons.mpr ⟨kp_istore, ?_⟩
  refine List.forall_mem_cons.mpr ⟨kp_iload, ?_⟩
  refine List.forall_mem_cons.mpr ⟨kp_aload, ?_⟩
  refine List.forall_mem_cons.mpr ⟨kp_geti, ?_⟩
  refine List.forall_mem_cons.mpr ⟨kp_icmp, ?_⟩
  refine List.forall_mem_cons.mpr ⟨kp_aload, ?_⟩
  refine List.forall_mem_cons.mpr ⟨kp_ifnull, ?_⟩
  refine List.forall_mem_cons.mpr ⟨kp_aload, ?_⟩
  refine List.forall_mem_cons.mpr ⟨kp_iload, ?_⟩
  refine List.forall_mem_cons.mpr ⟨kp_callv, ?_⟩
  refine List.forall_mem_cons.mpr ⟨kp_astore, ?_⟩
  refine List.forall_mem_cons.mpr ⟨kp_aload, ?_⟩
  refine List.forall_mem_cons.mpr ⟨kp_ifnull, ?_⟩
  refine List.forall_mem_cons.mpr ⟨kp_aload, ?_⟩
  refine List.forall_mem_cons.mpr ⟨kp_aload, ?_⟩
  refine List.forall_mem_cons.mpr ⟨kp_callv, ?_⟩
  refine List.forall_mem_cons.mpr ⟨kp_if, ?_⟩
  refine List.forall_mem_cons.mpr ⟨kp_aload, ?_⟩
  refine List.forall_mem_cons.mpr ⟨kp_geti, ?_⟩
  refine List.forall_mem_cons.mpr ⟨kp_if, ?_⟩
  refine List.forall_mem_cons.mpr ⟨kp_aload, ?_⟩
  refine List.forall_mem_cons.mpr ⟨kp_geti, ?_⟩
  refine List.forall_mem_cons.mpr ⟨kp_aload, ?_⟩
  refine List.forall_mem_cons.mpr ⟨kp_geti, ?_⟩
  refine List.forall_mem_cons.mpr ⟨kp_icmp, ?_⟩
  refine List.forall_mem_cons.mpr ⟨kp_aload, ?_⟩
  refine List.forall_mem_cons.mpr ⟨kp_getr, ?_⟩
  refine List.forall_mem_cons.mpr ⟨kp_aload, ?_⟩
  refine List.forall_mem_cons.mpr ⟨kp_geti, ?_⟩
  refine List.forall_mem_cons.mpr ⟨kp_rald, ?_⟩
  refine List.forall_mem_cons.mpr ⟨kp_aload, ?_⟩
  refine List.forall_mem_cons.mpr ⟨kp_aload, ?_⟩
  refine List.forall_mem_cons.mpr ⟨kp_geti, ?_⟩
  refine List.forall_mem_cons.mpr ⟨kp_if, ?_⟩
  refine List.forall_mem_cons.mpr ⟨kp_const, ?_⟩
  refine List.forall_mem_cons.mpr ⟨kp_goto, ?_⟩
  refine List.forall_mem_cons.mpr ⟨kp_iload, ?_⟩
  refine List.forall_mem_cons.mpr ⟨kp_call, ?_⟩
  refine List.forall_mem_cons.mpr ⟨kp_iinc, ?_⟩
  refine List.forall_mem_cons.mpr ⟨kp_goto, ?_⟩
  refine List.forall_mem_cons.mpr ⟨kp_iinc, ?_⟩
  refine List.forall_mem_cons.mpr ⟨kp_goto, ?_⟩
  refine List.forall_mem_cons.mpr ⟨kp_vret, ?_⟩
  exact List.forall_mem_nil _
theorem kqX1_layNotice : ∀ q ∈ tX1_layNotice, KP q.2 := by
  unfold tX1_layNotice
  refine List.forall_mem_cons.mpr ⟨kp_aload, ?_⟩
  refine List.forall_mem_cons.mpr ⟨kp_geti, ?_⟩
  refine List.forall_mem_cons.mpr ⟨kp_aload, ?_⟩
  refine List.forall_mem_cons.mpr ⟨kp_alen, ?_⟩
  refine List.forall_mem_cons.mpr ⟨kp_mm, ?_⟩
  refine List.forall_mem_cons.mpr ⟨kp_istore, ?_⟩
  refine List.forall_mem_cons.mpr ⟨kp_aload, ?_⟩
  refine List.forall_mem_cons.mpr ⟨kp_geti, ?_⟩
  refine List.forall_mem_cons.mpr ⟨kp_const, ?_⟩
  refine List.forall_mem_cons.mpr ⟨kp_mm, ?_⟩
  refine List.forall_mem_cons.mpr ⟨kp_istore, ?_⟩
  refine List.forall_mem_cons.mpr ⟨kp_iload, ?_⟩
  refine List.forall_mem_cons.mpr ⟨kp_iload, ?_⟩
  refine List.forall_mem_cons.mpr ⟨kp_icmp, ?_⟩
  refine List.forall_mem_cons.mpr ⟨kp_aload, ?_⟩
  refine List.forall_mem_cons.mpr ⟨kp_iload, ?_⟩
  refine List.forall_mem_cons.mpr ⟨kp_iload, ?_⟩
  refine List.forall_mem_cons.mpr ⟨kp_iast, ?_⟩
  refine List.forall_mem_cons.mpr ⟨kp_iinc, ?_⟩
  refine List.forall_mem_cons.mpr ⟨kp_goto, ?_⟩
  refine List.forall_mem_cons.mpr ⟨kp_vret, ?_⟩
  exact List.forall_mem_nil _
theorem kqX1_pushByOvers : ∀ q ∈ tX1_pushByOvers, KP q.2 := by
  unfold tX1_pushByOvers
  refine List.forall_mem_cons.mpr ⟨kp_const, ?_⟩
  refine List.forall_mem_cons.mpr ⟨kp_istore, ?_⟩
  refine List.forall_mem_cons.mpr ⟨kp_iload, ?_⟩
  refine List.forall_mem_cons.mpr ⟨kp_aload, ?_⟩
  refine List.forall_mem_cons.mpr ⟨kp_geti, ?_⟩
  refine List.forall_mem_cons.mpr ⟨kp_icmp, ?_⟩
  refine List.forall_mem_cons.mpr ⟨kp_aload, ?_⟩
  refine List.forall_mem_cons.mpr ⟨kp_iload, ?_⟩
  refine List.forall_mem_cons.mpr ⟨kp_callv, ?_⟩
  refine List.forall_mem_cons.mpr ⟨kp_astore, ?_⟩
  refine List.forall_mem_cons.mpr ⟨kp_aload, ?_⟩
  refine List.forall_mem_cons.mpr ⟨kp_ifnull, ?_⟩
  refine List.forall_mem_cons.mpr ⟨kp_aload, ?_⟩
  refine List.forall_mem_cons.mpr ⟨kp_callv, ?_⟩
  refine List.forall_mem_cons.mpr ⟨kp_if, ?_⟩
  refine List.forall_mem_cons.mpr ⟨kp_aload, ?_⟩
  refine List.forall_mem_cons.mpr ⟨kp_geti, ?_⟩
  refine List.forall_mem_cons.mpr ⟨kp_if, ?_⟩
  refine List.forall_mem_cons.mpr ⟨kp_aload, ?_⟩
  refine List.forall_mem_cons.mpr ⟨kp_geti, ?_⟩
  refine List.forall_mem_cons.mpr ⟨kp_aload, ?_⟩
  refine List.forall_mem_cons.mpr ⟨kp_geti, ?_⟩
  refine List.forall_mem_cons.mpr ⟨kp_icmp, ?_⟩
  refine List.forall_mem_cons.mpr ⟨kp_aload, ?_⟩
  refine List.forall_mem_cons.mpr ⟨kp_aload, ?_⟩
  refine List.forall_mem_cons.mpr ⟨kp_aload, ?_⟩
  refine List.forall_mem_cons.mpr ⟨kp_getr, ?_⟩
  refine List.forall_mem_cons.mpr ⟨kp_aload, ?_⟩
  refine List.forall_mem_cons.mpr ⟨kp_geti, ?_⟩
  refine List.forall_mem_cons.mpr ⟨kp_rald, ?_⟩
  refine List.forall_mem_cons.mpr ⟨kp_aload, ?_⟩
  refine List.forall_mem_cons.mpr ⟨kp_callv, ?_⟩
  refine List.forall_mem_cons.mpr ⟨kp_iinc, ?_⟩
  refine List.forall_mem_cons.mpr ⟨kp_goto, ?_⟩
  refine List.forall_mem_cons.mpr ⟨kp_vret, ?_⟩
  exact List.forall_mem_nil _
theorem kqX1_pushByOver : ∀ q ∈ tX1_pushByOver, KP q.2 := by
  unfold tX1_pushByOver
  refine List.forall_mem_cons.mpr ⟨kp_aload, ?_⟩
  refine List.forall_mem_cons.mpr ⟨kp_geti, ?_⟩
  refine List.forall_mem_cons.mpr ⟨kp_istore, ?_⟩
  refine List.forall_mem_cons.mpr ⟨kp_iload, ?_⟩
  refine List.forall_mem_cons.mpr ⟨kp_const, ?_⟩
  refine List.forall_mem_cons.mpr ⟨kp_icmp, ?_⟩
  refine List.forall_mem_cons.mpr ⟨kp_iload, ?_⟩
  refine List.forall_mem_cons.mpr ⟨kp_const, ?_⟩
  refine List.forall_mem_cons.mpr ⟨kp_icmp, ?_⟩
  refine List.forall_mem_cons.mpr ⟨kp_aload, ?_⟩
  refine List.forall_mem_cons.mpr ⟨kp_alen, ?_⟩
  refine List.forall_mem_cons.mpr ⟨kp_const, ?_⟩
  refine List.forall_mem_cons.mpr ⟨kp_icmp, ?_⟩
  refine List.forall_mem_cons.mpr ⟨kp_vret, ?_⟩
  refine List.forall_mem_cons.mpr ⟨kp_aload, ?_⟩
  refine List.forall_mem_cons.mpr ⟨kp_iload, ?_⟩
  refine List.forall_mem_cons.mpr ⟨kp_const, ?_⟩
  refine List.forall_mem_cons.mpr ⟨kp_bin (f := fun x y => x - y), ?_⟩
  refine List.forall_mem_cons.mpr ⟨kp_ald, ?_⟩
  refine List.forall_mem_cons.mpr ⟨kp_istore, ?_⟩
  refine List.forall_mem_cons.mpr ⟨kp_aload, ?_⟩
  refine List.forall_mem_cons.mpr ⟨kp_iload, ?_⟩
  refine List.forall_mem_cons.mpr ⟨kp_callv, ?_⟩
  refine List.forall_mem_cons.mpr ⟨kp_astore, ?_⟩
  refine List.forall_mem_cons.mpr ⟨kp_aload, ?_⟩
  refine List.forall_mem_cons.mpr ⟨kp_ifnull, ?_⟩
  refine List.forall_mem_cons.mpr ⟨kp_aload, ?_⟩
  refine List.forall_mem_cons.mpr ⟨kp_geti, ?_⟩
  refine List.forall_mem_cons.mpr ⟨kp_if, ?_⟩
  refine List.forall_mem_cons.mpr ⟨kp_vret, ?_⟩
  refine List.forall_mem_cons.mpr ⟨kp_aload, ?_⟩
  refine List.forall_mem_cons.mpr ⟨kp_const, ?_⟩
  refine List.forall_mem_cons.mpr ⟨kp_aload, ?_⟩
  refine List.forall_mem_cons.mpr ⟨kp_getr, ?_⟩
  refine List.forall_mem_cons.mpr ⟨kp_const, ?_⟩
  refine List.forall_mem_cons.mpr ⟨kp_const, ?_⟩
  refine List.forall_mem_cons.mpr ⟨kp_copy, ?_⟩
  refine List.forall_mem_cons.mpr ⟨kp_aload, ?_⟩
  refine List.forall_mem_cons.mpr ⟨kp_geti, ?_⟩
  refine List.forall_mem_cons.mpr ⟨kp_const, ?_⟩
  refine List.forall_mem_cons.mpr ⟨kp_mm, ?_⟩
  refine List.forall_mem_cons.mpr ⟨kp_istore, ?_⟩
  refine List.forall_mem_cons.mpr ⟨kp_iload, ?_⟩
  refine List.forall_mem_cons.mpr ⟨kp_istore, ?_⟩
  refine List.forall_mem_cons.mpr ⟨kp_iload, ?_⟩
  refine List.forall_mem_cons.mpr ⟨kp_iload, ?_⟩
  refine List.forall_mem_cons.mpr ⟨kp_icmp, ?_⟩
  refine List.forall_mem_cons.mpr ⟨kp_aload, ?_⟩
  refine List.forall_mem_cons.mpr ⟨kp_iload, ?_⟩
  refine List.forall_mem_cons.mpr ⟨kp_iload, ?_⟩
  refine List.forall_mem_cons.mpr ⟨kp_iast, ?_⟩
  refine List.forall_mem_cons.mpr ⟨kp_iinc, ?_⟩
  refine List.forall_mem_cons.mpr ⟨kp_goto, ?_⟩
  refine List.forall_mem_cons.mpr ⟨kp_aload, ?_⟩
  refine List.forall_mem_cons.mpr ⟨kp_geti, ?_⟩
  refine List.forall_mem_cons.mpr ⟨kp_iload, ?_⟩
  refine List.forall_mem_cons.mpr ⟨kp_bin (f := fun x y => x - y), ?_⟩
  refine List.forall_mem_cons.mpr ⟨kp_istore, ?_⟩
  refine List.forall_mem_cons.mpr ⟨kp_iload, ?_⟩
  refine List.forall_mem_cons.mpr ⟨kp_istore, ?_⟩
  refine List.forall_mem_cons.mpr ⟨kp_iload, ?_⟩
  refine List.forall_mem_cons.mpr ⟨kp_const, ?_⟩
  refine List.forall_mem_cons.mpr ⟨kp_icmp, ?_⟩
  refine List.forall_mem_cons.mpr ⟨kp_iload, ?_⟩
  refine List.forall_mem_cons.mpr ⟨kp_if, ?_⟩
  refine List.forall_mem_cons.mpr ⟨kp_aload, ?_⟩
  refine List.forall_mem_cons.mpr ⟨kp_getr, ?_⟩
  refine List.forall_mem_cons.mpr ⟨kp_iload, ?_⟩
  refine List.forall_mem_cons.mpr ⟨kp_ald, ?_⟩
  refine List.forall_mem_cons.mpr ⟨kp_const, ?_⟩
  refine List.forall_mem_cons.mpr ⟨kp_icmp, ?_⟩
  refine List.forall_mem_cons.mpr ⟨kp_iinc, ?_⟩
  refine List.forall_mem_cons.mpr ⟨kp_goto, ?_⟩
  refine List.forall_mem_cons.mpr ⟨kp_iload, ?_⟩
  refine List.forall_mem_cons.mpr ⟨kp_iload, ?_⟩
  refine List.forall_mem_cons.mpr ⟨kp_bin (f := fun x y => x + y), ?_⟩
  refine List.forall_mem_cons.mpr ⟨kp_const, ?_⟩
  refine List.forall_mem_cons.mpr ⟨kp_icmp, ?_⟩
  refine List.forall_mem_cons.mpr ⟨kp_aload, ?_⟩
  refine List.forall_mem_cons.mpr ⟨kp_iload, ?_⟩
  refine List.forall_mem_cons.mpr ⟨kp_iload, ?_⟩
  refine List.forall_mem_cons.mpr ⟨kp_bin (f := fun x y => x + y), ?_⟩
  refine List.forall_mem_cons.mpr ⟨kp_aload, ?_⟩
  refine List.forall_mem_cons.mpr ⟨kp_getr, ?_⟩
  refine List.forall_mem_cons.mpr ⟨kp_iload, ?_⟩
  refine List.forall_mem_cons.mpr ⟨kp_ald, ?_⟩
  refine List.forall_mem_cons.mpr ⟨kp_iast, ?_⟩
  refine List.forall_mem_cons.mpr ⟨kp_iinc, ?_⟩
  refine List.forall_mem_cons.mpr ⟨kp_goto, ?_⟩
  refine List.forall_mem_cons.mpr ⟨kp_vret, ?_⟩
  exact List.forall_mem_nil _
theorem kqX1_collectShowings : ∀ q ∈ tX1_collectShowings, KP q.2 := by
  unfold tX1_collectShowings
  refine List.forall_mem_cons.mpr ⟨kp_aload, ?_⟩
  refine List.forall_mem_cons.mpr ⟨kp_const, ?_⟩
  refine List.forall_mem_cons.mpr ⟨kp_puti, ?_⟩
  refine List.forall_mem_cons.mpr ⟨kp_aload, ?_⟩
  refine List.forall_mem_cons.mpr ⟨kp_getr, ?_⟩
  refine List.forall_mem_cons.mpr ⟨kp_const, ?_⟩
  refine List.forall_mem_cons.mpr ⟨kp_call, ?_⟩
  refine List.forall_mem_cons.mpr ⟨kp_const, ?_⟩
  refine List.forall_mem_cons.mpr ⟨kp_istore, ?_⟩
  refine List.forall_mem_cons.mpr ⟨kp_iload, ?_⟩
  refine List.forall_mem_cons.mpr ⟨kp_const, ?_⟩
  refine List.forall_mem_cons.mpr ⟨kp_icmp, ?_⟩
  refine List.forall_mem_cons.mpr ⟨kp_const, ?_⟩
  refine List.forall_mem_cons.mpr ⟨kp_istore, ?_⟩
  refine List.forall_mem_cons.mpr ⟨kp_iload, ?_⟩
  refine List.forall_mem_cons.mpr ⟨kp_aload, ?_⟩
  refine List.forall_mem_cons.mpr ⟨kp_geti, ?_⟩
  refine List.forall_mem_cons.mpr ⟨kp_icmp, ?_⟩
  refine List.forall_mem_cons.mpr ⟨kp_aload, ?_⟩
  refine List.forall_mem_cons.mpr ⟨kp_getr, ?_⟩
  refine List.forall_mem_cons.mpr ⟨kp_iload, ?_⟩
  refine List.forall_mem_cons.mpr ⟨kp_rald, ?_⟩
  refine List.forall_mem_cons.mpr ⟨kp_iload, ?_⟩
  refine List.forall_mem_cons.mpr ⟨kp_ald, ?_⟩
  refine List.forall_mem_cons.mpr ⟨kp_istore, ?_⟩
  refine List.forall_mem_cons.mpr ⟨kp_iload, ?_⟩
  refine List.forall_mem_cons.mpr ⟨kp_const, ?_⟩
  refine List.forall_mem_cons.mpr ⟨kp_icmp, ?_⟩
  refine List.forall_mem_cons.mpr ⟨kp_iload, ?_⟩
  refine List.forall_mem_cons.mpr ⟨kp_if, ?_⟩
  refine List.forall_mem_cons.mpr ⟨kp_aload, ?_⟩
  refine List.forall_mem_cons.mpr ⟨kp_getr, ?_⟩
  refine List.forall_mem_cons.mpr ⟨kp_iload, ?_⟩
  refine List.forall_mem_cons.mpr ⟨kp_rald, ?_⟩
  refine List.forall_mem_cons.mpr ⟨kp_iload, ?_⟩
  refine List.forall_mem_cons.mpr ⟨kp_const, ?_⟩
  refine List.forall_mem_cons.mpr ⟨kp_bin (f := fun x y => x - y), ?_⟩
  refine List.forall_mem_cons.mpr ⟨kp_ald, ?_⟩
  refine List.forall_mem_cons.mpr ⟨kp_iload, ?_⟩
  refine List.forall_mem_cons.mpr ⟨kp_icmp, ?_⟩
  refine List.forall_mem_cons.mpr ⟨kp_aload, ?_⟩
  refine List.forall_mem_cons.mpr ⟨kp_iload, ?_⟩
  refine List.forall_mem_cons.mpr ⟨kp_aload, ?_⟩
  refine List.forall_mem_cons.mpr ⟨kp_iload, ?_⟩
  refine List.forall_mem_cons.mpr ⟨kp_callv, ?_⟩
  refine List.forall_mem_cons.mpr ⟨kp_iload, ?_⟩
  refine List.forall_mem_cons.mpr ⟨kp_aload, ?_⟩
  refine List.forall_mem_cons.mpr ⟨kp_getr, ?_⟩
  refine List.forall_mem_cons.mpr ⟨kp_iload, ?_⟩
  refine List.forall_mem_cons.mpr ⟨kp_rald, ?_⟩
  refine List.forall_mem_cons.mpr ⟨kp_iload, ?_⟩
  refine List.forall_mem_cons.mpr ⟨kp_call, ?_⟩
  refine List.forall_mem_cons.mpr ⟨kp_callv, ?_⟩
  refine List.forall_mem_cons.mpr ⟨kp_iinc, ?_⟩
  refine List.forall_mem_cons.mpr ⟨kp_goto, ?_⟩
  refine List.forall_mem_cons.mpr ⟨kp_iinc, ?_⟩
  refine List.forall_mem_cons.mpr ⟨kp_goto, ?_⟩
  refine List.forall_mem_cons.mpr ⟨kp_vret, ?_⟩
  exact List.forall_mem_nil _
theorem kqX1_endOfRun : ∀ q ∈ tX1_endOfRun, KP q.2 := by
  unfold tX1_endOfRun
  refine List.forall_mem_cons.mpr ⟨kp_iload, ?_⟩
  refine List.forall_mem_cons.mpr ⟨kp_const, ?_⟩
  refine List.forall_mem_cons.mpr ⟨kp_bin (f := fun x y => x + y), ?_⟩
  refine List.forall_mem_cons.mpr ⟨kp_istore, ?_⟩
  refine List.forall_mem_cons.mpr ⟨kp_iload, ?_⟩
  refine List.forall_mem_cons.mpr ⟨kp_aload, ?_⟩
  refine List.forall_mem_cons.mpr ⟨kp_alen, ?_⟩
  refine List.forall_mem_cons.mpr ⟨kp_icmp, ?_⟩
  refine List.forall_mem_cons.mpr ⟨kp_aload, ?_⟩
  refine List.forall_mem_cons.mpr ⟨kp_iload, ?_⟩
  refine List.forall_mem_cons.mpr ⟨kp_ald, ?_⟩
  refine List.forall_mem_cons.mpr ⟨kp_aload, ?_⟩
  refine List.forall_mem_cons.mpr ⟨kp_iload, ?_⟩
  refine List.forall_mem_cons.mpr ⟨kp_ald, ?_⟩
  refine List.forall_mem_cons.mpr ⟨kp_icmp, ?_⟩
  refine List.forall_mem_cons.mpr ⟨kp_iload, ?_⟩
  refine List.forall_mem_cons.mpr ⟨kp_iret, ?_⟩
  refine List.forall_mem_cons.mpr ⟨kp_iinc, ?_⟩
  refine List.forall_mem_cons.mpr ⟨kp_goto, ?_⟩
  refine List.forall_mem_cons.mpr ⟨kp_aload, ?_⟩
  refine List.forall_mem_cons.mpr ⟨kp_alen, ?_⟩
  refine List.forall_mem_cons.mpr ⟨kp_iret, ?_⟩
  exact List.forall_mem_nil _
theorem kqX1_addShowing : ∀ q ∈ tX1_addShowing, KP q.2 := by
  unfold tX1_addShowing
  refine List.forall_mem_cons.mpr ⟨kp_aload, ?_⟩
  refine List.forall_mem_cons.mpr ⟨kp_ifnull, ?_⟩
  refine List.forall_mem_cons.mpr ⟨kp_aload, ?_⟩
  refine List.forall_mem_cons.mpr ⟨kp_geti, ?_⟩
  refine List.forall_mem_cons.mpr ⟨kp_aload, ?_⟩
  refine List.forall_mem_cons.mpr ⟨kp_getr, ?_⟩
  refine List.forall_mem_cons.mpr ⟨kp_alen, ?_⟩
  refine List.forall_mem_cons.mpr ⟨kp_icmp, ?_⟩
  refine List.forall_mem_cons.mpr ⟨kp_vret, ?_⟩
  refine List.forall_mem_cons.mpr ⟨kp_aload, ?_⟩
  refine List.forall_mem_cons.mpr ⟨kp_getr, ?_⟩
  refine List.forall_mem_cons.mpr ⟨kp_aload, ?_⟩
  refine List.forall_mem_cons.mpr ⟨kp_geti, ?_⟩
  refine List.forall_mem_cons.mpr ⟨kp_rald, ?_⟩
  refine List.forall_mem_cons.mpr ⟨kp_ifnull, ?_⟩
  refine List.forall_mem_cons.mpr ⟨kp_aload, ?_⟩
  refine List.forall_mem_cons.mpr ⟨kp_getr, ?_⟩
  refine List.forall_mem_cons.mpr ⟨kp_aload, ?_⟩
  refine List.forall_mem_cons.mpr ⟨kp_geti, ?_⟩
  refine List.forall_mem_cons.mpr ⟨kp_new, ?_⟩
  refine List.forall_mem_cons.mpr ⟨kp_dup, ?_⟩
  refine List.forall_mem_cons.mpr ⟨kp_callv, ?_⟩
  refine List.forall_mem_cons.mpr ⟨kp_rast, ?_⟩
  refine List.forall_mem_cons.mpr ⟨kp_aload, ?_⟩
  refine List.forall_mem_cons.mpr ⟨kp_getr, ?_⟩
  refine List.forall_mem_cons.mpr ⟨kp_aload, ?_⟩
  refine List.forall_mem_cons.mpr ⟨kp_geti, ?_⟩
  refine List.forall_mem_cons.mpr ⟨kp_rald, ?_⟩
  refine List.forall_mem_cons.mpr ⟨kp_astore, ?_⟩
  refine List.forall_mem_cons.mpr ⟨kp_aload, ?_⟩
  refine List.forall_mem_cons.mpr ⟨kp_aload, ?_⟩
  refine List.forall_mem_cons.mpr ⟨kp_geti, ?_⟩
  refine List.forall_mem_cons.mpr ⟨kp_iload, ?_⟩
  refine List.forall_mem_cons.mpr ⟨kp_aload, ?_⟩
  refine List.forall_mem_cons.mpr ⟨kp_iload, ?_⟩
  refine List.forall_mem_cons.mpr ⟨kp_iload, ?_⟩
  refine List.forall_mem_cons.mpr ⟨kp_callv, ?_⟩
  refine List.forall_mem_cons.mpr ⟨kp_aload, ?_⟩
  refine List.forall_mem_cons.mpr ⟨kp_aload, ?_⟩
  refine List.forall_mem_cons.mpr ⟨kp_aload, ?_⟩
  refine List.forall_mem_cons.mpr ⟨kp_callv, ?_⟩
  refine List.forall_mem_cons.mpr ⟨kp_puti, ?_⟩
  refine List.forall_mem_cons.mpr ⟨kp_aload, ?_⟩
  refine List.forall_mem_cons.mpr ⟨kp_dup, ?_⟩
  refine List.forall_mem_cons.mpr ⟨kp_geti, ?_⟩
  refine List.forall_mem_cons.mpr ⟨kp_const, ?_⟩
  refine List.forall_mem_cons.mpr ⟨kp_bin (f := fun x y => x + y), ?_⟩
  refine List.forall_mem_cons.mpr ⟨kp_puti, ?_⟩
  refine List.forall_mem_cons.mpr ⟨kp_vret, ?_⟩
  exact List.forall_mem_nil _
theorem kqX1_leastOneOf : ∀ q ∈ tX1_leastOneOf, KP q.2 := by
  unfold tX1_leastOneOf
  refine List.forall_mem_cons.mpr ⟨kp_aload, ?_⟩
  refine List.forall_mem_cons.mpr ⟨kp_geti, ?_⟩
  refine List.forall_mem_cons.mpr ⟨kp_const, ?_⟩
  refine List.forall_mem_cons.mpr ⟨kp_bin (f := fun x y => x * y), ?_⟩
  refine List.forall_mem_cons.mpr ⟨kp_aload, ?_⟩
  refine List.forall_mem_cons.mpr ⟨kp_geti, ?_⟩
  refine List.forall_mem_cons.mpr ⟨kp_bin (f := fun x y => x + y), ?_⟩
  refine List.forall_mem_cons.mpr ⟨kp_istore, ?_⟩
  refine List.forall_mem_cons.mpr ⟨kp_aload, ?_⟩
  refine List.forall_mem_cons.mpr ⟨kp_geti, ?_⟩
  refine List.forall_mem_cons.mpr ⟨kp_if, ?_⟩
  refine List.forall_mem_cons.mpr ⟨kp_iload, ?_⟩
  refine List.forall_mem_cons.mpr ⟨kp_if, ?_⟩
  refine List.forall_mem_cons.mpr ⟨kp_iload, ?_⟩
  refine List.forall_mem_cons.mpr ⟨kp_aload, ?_⟩
  refine List.forall_mem_cons.mpr ⟨kp_getr, ?_⟩
  refine List.forall_mem_cons.mpr ⟨kp_alen, ?_⟩
  refine List.forall_mem_cons.mpr ⟨kp_icmp, ?_⟩
  refine List.forall_mem_cons.mpr ⟨kp_aload, ?_⟩
  refine List.forall_mem_cons.mpr ⟨kp_geti, ?_⟩
  refine List.forall_mem_cons.mpr ⟨kp_iret, ?_⟩
  refine List.forall_mem_cons.mpr ⟨kp_aload, ?_⟩
  refine List.forall_mem_cons.mpr ⟨kp_getr, ?_⟩
  refine List.forall_mem_cons.mpr ⟨kp_iload, ?_⟩
  refine List.forall_mem_cons.mpr ⟨kp_ald, ?_⟩
  refine List.forall_mem_cons.mpr ⟨kp_const, ?_⟩
  refine List.forall_mem_cons.mpr ⟨kp_icmp, ?_⟩
  refine List.forall_mem_cons.mpr ⟨kp_aload, ?_⟩
  refine List.forall_mem_cons.mpr ⟨kp_getr, ?_⟩
  refine List.forall_mem_cons.mpr ⟨kp_iload, ?_⟩
  refine List.forall_mem_cons.mpr ⟨kp_aload, ?_⟩
  refine List.forall_mem_cons.mpr ⟨kp_geti, ?_⟩
  refine List.forall_mem_cons.mpr ⟨kp_iast, ?_⟩
  refine List.forall_mem_cons.mpr ⟨kp_aload, ?_⟩
  refine List.forall_mem_cons.mpr ⟨kp_getr, ?_⟩
  refine List.forall_mem_cons.mpr ⟨kp_iload, ?_⟩
  refine List.forall_mem_cons.mpr ⟨kp_ald, ?_⟩
  refine List.forall_mem_cons.mpr ⟨kp_iret, ?_⟩
  exact List.forall_mem_nil _
theorem kqX2_init : ∀ q ∈ tX2_init, KP q.2 := by
  unfold tX2_init
  refine List.forall_mem_cons.mpr ⟨kp_aload, ?_⟩
  refine List.forall_mem_cons.mpr ⟨kp_objinit, ?_⟩
  refine List.forall_mem_cons.mpr ⟨kp_aload, ?_⟩
  refine List.forall_mem_cons.mpr ⟨kp_aload, ?_⟩
  refine List.forall_mem_cons.mpr ⟨kp_putr, ?_⟩
  refine List.forall_mem_cons.mpr ⟨kp_aload, ?_⟩
  refine List.forall_mem_cons.mpr ⟨kp_iload, ?_⟩
  refine List.forall_mem_cons.mpr ⟨kp_puti, ?_⟩
  refine List.forall_mem_cons.mpr ⟨kp_aload, ?_⟩
  refine List.forall_mem_cons.mpr ⟨kp_iload, ?_⟩
  refine List.forall_mem_cons.mpr ⟨kp_puti, ?_⟩
  refine List.forall_mem_cons.mpr ⟨kp_aload, ?_⟩
  refine List.forall_mem_cons.mpr ⟨kp_iload, ?_⟩
  refine List.forall_mem_cons.mpr ⟨kp_puti, ?_⟩
  refine List.forall_mem_cons.mpr ⟨kp_aload, ?_⟩
  refine List.forall_mem_cons.mpr ⟨kp_iload, ?_⟩
  refine List.forall_mem_cons.mpr ⟨kp_puti, ?_⟩
  refine List.forall_mem_cons.mpr ⟨kp_aload, ?_⟩
  refine List.forall_mem_cons.mpr ⟨kp_iload, ?_⟩
  refine List.forall_mem_cons.mpr ⟨kp_puti, ?_⟩
  refine List.forall_mem_cons.mpr ⟨kp_aload, ?_⟩
  refine List.forall_mem_cons.mpr ⟨kp_iload, ?_⟩
  refine List.forall_mem_cons.mpr ⟨kp_putz, ?_⟩
  refine List.forall_mem_cons.mpr ⟨kp_vret, ?_⟩
  exact List.forall_mem_nil _
theorem kqX2_isNotice : ∀ q ∈ tX2_isNotice, KP q.2 := by
  unfold tX2_isNotice
  refine List.forall_mem_cons.mpr ⟨kp_aload, ?_⟩
  refine List.forall_mem_cons.mpr ⟨kp_getr, ?_⟩
  refine List.forall_mem_cons.mpr ⟨kp_ifnull, ?_⟩
  refine List.forall_mem_cons.mpr ⟨kp_const, ?_⟩
  refine List.forall_mem_cons.mpr ⟨kp_goto, ?_⟩
  refine List.forall_mem_cons.mpr ⟨kp_const, ?_⟩
  refine List.forall_mem_cons.mpr ⟨kp_zret, ?_⟩
  exact List.forall_mem_nil _
theorem kqX2_isWordOf : ∀ q ∈ tX2_isWordOf, KP q.2 := by
  unfold tX2_isWordOf
  refine List.forall_mem_cons.mpr ⟨kp_aload, ?_⟩
  refine List.forall_mem_cons.mpr ⟨kp_getr, ?_⟩
  refine List.forall_mem_cons.mpr ⟨kp_ifnull, ?_⟩
  refine List.forall_mem_cons.mpr ⟨kp_aload, ?_⟩
  refine List.forall_mem_cons.mpr ⟨kp_getr, ?_⟩
  refine List.forall_mem_cons.mpr ⟨kp_geti, ?_⟩
  refine List.forall_mem_cons.mpr ⟨kp_aload, ?_⟩
  refine List.forall_mem_cons.mpr ⟨kp_geti, ?_⟩
  refine List.forall_mem_cons.mpr ⟨kp_icmp, ?_⟩
  refine List.forall_mem_cons.mpr ⟨kp_const, ?_⟩
  refine List.forall_mem_cons.mpr ⟨kp_goto, ?_⟩
  refine List.forall_mem_cons.mpr ⟨kp_const, ?_⟩
  refine List.forall_mem_cons.mpr ⟨kp_zret, ?_⟩
  exact List.forall_mem_nil _
theorem kqX2_hasSlot : ∀ q ∈ tX2_hasSlot, KP q.2 := by
  unfold tX2_hasSlot
  refine List.forall_mem_cons.mpr ⟨kp_aload, ?_⟩
  refine List.forall_mem_cons.mpr ⟨kp_geti, ?_⟩
  refine List.forall_mem_cons.mpr ⟨kp_iload, ?_⟩
  refine List.forall_mem_cons.mpr ⟨kp_icmp, ?_⟩
  refine List.forall_mem_cons.mpr ⟨kp_aload, ?_⟩
  refine List.forall_mem_cons.mpr ⟨kp_geti, ?_⟩
  refine List.forall_mem_cons.mpr ⟨kp_iload, ?_⟩
  refine List.forall_mem_cons.mpr ⟨kp_icmp, ?_⟩
  refine List.forall_mem_cons.mpr ⟨kp_iload, ?_⟩
  refine List.forall_mem_cons.mpr ⟨kp_aload, ?_⟩
  refine List.forall_mem_cons.mpr ⟨kp_geti, ?_⟩
  refine List.forall_mem_cons.mpr ⟨kp_icmp, ?_⟩
  refine List.forall_mem_cons.mpr ⟨kp_const, ?_⟩
  refine List.forall_mem_cons.mpr ⟨kp_goto, ?_⟩
  refine List.forall_mem_cons.mpr ⟨kp_const, ?_⟩
  refine List.forall_mem_cons.mpr ⟨kp_zret, ?_⟩
  exact List.forall_mem_nil _
theorem kqX2_trust : ∀ q ∈ tX2_trust, KP q.2 := by
  unfold tX2_trust
  refine List.forall_mem_cons.mpr ⟨kp_aload, ?_⟩
  refine List.forall_mem_cons.mpr ⟨kp_getr, ?_⟩
  refine List.forall_mem_cons.mpr ⟨kp_ifnull, ?_⟩
  refine List.forall_mem_cons.mpr ⟨kp_const, ?_⟩
  refine List.forall_mem_cons.mpr ⟨kp_goto, ?_⟩
  refine List.forall_mem_cons.mpr ⟨kp_aload, ?_⟩
  refine List.forall_mem_cons.mpr ⟨kp_getr, ?_⟩
  refine List.forall_mem_cons.mpr ⟨kp_geti, ?_⟩
  refine List.forall_mem_cons.mpr ⟨kp_iret, ?_⟩
  exact List.forall_mem_nil _
theorem kqX3_init : ∀ q ∈ tX3_init, KP q.2 := by
  unfold tX3_init
  refine List.forall_mem_cons.mpr ⟨kp_aload, ?_⟩
  refine List.forall_mem_cons.mpr ⟨kp_objinit, ?_⟩
  refine List.forall_mem_cons.mpr ⟨kp_aload, ?_⟩
  refine List.forall_mem_cons.mpr ⟨kp_const, ?_⟩
  refine List.forall_mem_cons.mpr ⟨kp_puti, ?_⟩
  refine List.forall_mem_cons.mpr ⟨kp_aload, ?_⟩
  refine List.forall_mem_cons.mpr ⟨kp_const, ?_⟩
  refine List.forall_mem_cons.mpr ⟨kp_puti, ?_⟩
  refine List.forall_mem_cons.mpr ⟨kp_aload, ?_⟩
  refine List.forall_mem_cons.mpr ⟨kp_const, ?_⟩
  refine List.forall_mem_cons.mpr ⟨kp_puti, ?_⟩
  refine List.forall_mem_cons.mpr ⟨kp_aload, ?_⟩
  refine List.forall_mem_cons.mpr ⟨kp_const, ?_⟩
  refine List.forall_mem_cons.mpr ⟨kp_newa, ?_⟩
  refine List.forall_mem_cons.mpr ⟨kp_putr, ?_⟩
  refine List.forall_mem_cons.mpr ⟨kp_aload, ?_⟩
  refine List.forall_mem_cons.mpr ⟨kp_const, ?_⟩
  refine List.forall_mem_cons.mpr ⟨kp_newa, ?_⟩
  refine List.forall_mem_cons.mpr ⟨kp_putr, ?_⟩
  refine List.forall_mem_cons.mpr ⟨kp_aload, ?_⟩
  refine List.forall_mem_cons.mpr ⟨kp_const, ?_⟩
  refine List.forall_mem_cons.mpr ⟨kp_newa, ?_⟩
  refine List.forall_mem_cons.mpr ⟨kp_putr, ?_⟩
  refine List.forall_mem_cons.mpr ⟨kp_vret, ?_⟩
  exact List.forall_mem_nil _
theorem kqX3_hasChannel : ∀ q ∈ tX3_hasChannel, KP q.2 := by
  unfold tX3_hasChannel
  refine List.forall_mem_cons.mpr ⟨kp_iload, ?_⟩
  refine List.forall_mem_cons.mpr ⟨kp_if, ?_⟩
  refine List.forall_mem_cons.mpr ⟨kp_iload, ?_⟩
  refine List.forall_mem_cons.mpr ⟨kp_aload, ?_⟩
  refine List.forall_mem_cons.mpr ⟨kp_geti, ?_⟩
  refine List.forall_mem_cons.mpr ⟨kp_icmp, ?_⟩
  refine List.forall_mem_cons.mpr ⟨kp_const, ?_⟩
  refine List.forall_mem_cons.mpr ⟨kp_goto, ?_⟩
  refine List.forall_mem_cons.mpr ⟨kp_const, ?_⟩
  refine List.forall_mem_cons.mpr ⟨kp_zret, ?_⟩
  exact List.forall_mem_nil _
theorem kqX3_isKnown : ∀ q ∈ tX3_isKnown, KP q.2 := by
  unfold tX3_isKnown
  refine List.forall_mem_cons.mpr ⟨kp_iload, ?_⟩
  refine List.forall_mem_cons.mpr ⟨kp_if, ?_⟩
  refine List.forall_mem_cons.mpr ⟨kp_iload, ?_⟩
  refine List.forall_mem_cons.mpr ⟨kp_aload, ?_⟩
  refine List.forall_mem_cons.mpr ⟨kp_geti, ?_⟩
  refine List.forall_mem_cons.mpr ⟨kp_icmp, ?_⟩
  refine List.forall_mem_cons.mpr ⟨kp_const, ?_⟩
  refine List.forall_mem_cons.mpr ⟨kp_goto, ?_⟩
  refine List.forall_mem_cons.mpr ⟨kp_const, ?_⟩
  refine List.forall_mem_cons.mpr ⟨kp_zret, ?_⟩
  exact List.forall_mem_nil _
theorem kqX3_sourceAt : ∀ q ∈ tX3_sourceAt, KP q.2 := by
  unfold tX3_sourceAt
  refine List.forall_mem_cons.mpr ⟨kp_iload, ?_⟩
  refine List.forall_mem_cons.mpr ⟨kp_if, ?_⟩
  refine List.forall_mem_cons.mpr ⟨kp_iload, ?_⟩
  refine List.forall_mem_cons.mpr ⟨kp_aload, ?_⟩
  refine List.forall_mem_cons.mpr ⟨kp_geti, ?_⟩
  refine List.forall_mem_cons.mpr ⟨kp_icmp, ?_⟩
  refine List.forall_mem_cons.mpr ⟨kp_iload, ?_⟩
  refine List.forall_mem_cons.mpr ⟨kp_aload, ?_⟩
  refine List.forall_mem_cons.mpr ⟨kp_getr, ?_⟩
  refine List.forall_mem_cons.mpr ⟨kp_alen, ?_⟩
  refine List.forall_mem_cons.mpr ⟨kp_icmp, ?_⟩
  refine List.forall_mem_cons.mpr ⟨kp_aload, ?_⟩
  refine List.forall_mem_cons.mpr ⟨kp_getr, ?_⟩
  refine List.forall_mem_cons.mpr ⟨kp_iload, ?_⟩
  refine List.forall_mem_cons.mpr ⟨kp_rald, ?_⟩
  refine List.forall_mem_cons.mpr ⟨kp_goto, ?_⟩
  refine List.forall_mem_cons.mpr ⟨kp_const, ?_⟩
  refine List.forall_mem_cons.mpr ⟨kp_aret, ?_⟩
  exact List.forall_mem_nil _
theorem kqX3_rankedAt : ∀ q ∈ tX3_rankedAt, KP q.2 := by
  unfold tX3_rankedAt
  refine List.forall_mem_cons.mpr ⟨kp_iload, ?_⟩
  refine List.forall_mem_cons.mpr ⟨kp_if, ?_⟩
  refine List.forall_mem_cons.mpr ⟨kp_iload, ?_⟩
  refine List.forall_mem_cons.mpr ⟨kp_aload, ?_⟩
  refine List.forall_mem_cons.mpr ⟨kp_geti, ?_⟩
  refine List.forall_mem_cons.mpr ⟨kp_icmp, ?_⟩
  refine List.forall_mem_cons.mpr ⟨kp_iload, ?_⟩
  refine List.forall_mem_cons.mpr ⟨kp_aload, ?_⟩
  refine List.forall_mem_cons.mpr ⟨kp_getr, ?_⟩
  refine List.forall_mem_cons.mpr ⟨kp_alen, ?_⟩
  refine List.forall_mem_cons.mpr ⟨kp_icmp, ?_⟩
  refine List.forall_mem_cons.mpr ⟨kp_aload, ?_⟩
  refine List.forall_mem_cons.mpr ⟨kp_getr, ?_⟩
  refine List.forall_mem_cons.mpr ⟨kp_iload, ?_⟩
  refine List.forall_mem_cons.mpr ⟨kp_rald, ?_⟩
  refine List.forall_mem_cons.mpr ⟨kp_goto, ?_⟩
  refine List.forall_mem_cons.mpr ⟨kp_const, ?_⟩
  refine List.forall_mem_cons.mpr ⟨kp_aret, ?_⟩
  exact List.forall_mem_nil _
theorem kqX3_factAt : ∀ q ∈ tX3_factAt, KP q.2 := by
  unfold tX3_factAt
  refine List.forall_mem_cons.mpr ⟨kp_iload, ?_⟩
  refine List.forall_mem_cons.mpr ⟨kp_if, ?_⟩
  refine List.forall_mem_cons.mpr ⟨kp_iload, ?_⟩
  refine List.forall_mem_cons.mpr ⟨kp_aload, ?_⟩
  refine List.forall_mem_cons.mpr ⟨kp_geti, ?_⟩
  refine List.forall_mem_cons.mpr ⟨kp_icmp, ?_⟩
  refine List.forall_mem_cons.mpr ⟨kp_iload, ?_⟩
  refine List.forall_mem_cons.mpr ⟨kp_aload, ?_⟩
  refine List.forall_mem_cons.mpr ⟨kp_getr, ?_⟩
  refine List.forall_mem_cons.mpr ⟨kp_alen, ?_⟩
  refine List.forall_mem_cons.mpr ⟨kp_icmp, ?_⟩
  refine List.forall_mem_cons.mpr ⟨kp_aload, ?_⟩
  refine List.forall_mem_cons.mpr ⟨kp_getr, ?_⟩
  refine List.forall_mem_cons.mpr ⟨kp_iload, ?_⟩
  refine List.forall_mem_cons.mpr ⟨kp_rald, ?_⟩
  refine List.forall_mem_cons.mpr ⟨kp_goto, ?_⟩
  refine List.forall_mem_cons.mpr ⟨kp_const, ?_⟩
  refine List.forall_mem_cons.mpr ⟨kp_aret, ?_⟩
  exact List.forall_mem_nil _
theorem kqX3_addSource : ∀ q ∈ tX3_addSource, KP q.2 := by
  unfold tX3_addSource
  refine List.forall_mem_cons.mpr ⟨kp_aload, ?_⟩
  refine List.forall_mem_cons.mpr ⟨kp_geti, ?_⟩
  refine List.forall_mem_cons.mpr ⟨kp_aload, ?_⟩
  refine List.forall_mem_cons.mpr ⟨kp_getr, ?_⟩
  refine List.forall_mem_cons.mpr ⟨kp_alen, ?_⟩
  refine List.forall_mem_cons.mpr ⟨kp_icmp, ?_⟩
  refine List.forall_mem_cons.mpr ⟨kp_aload, ?_⟩
  refine List.forall_mem_cons.mpr ⟨kp_geti, ?_⟩
  refine List.forall_mem_cons.mpr ⟨kp_aload, ?_⟩
  refine List.forall_mem_cons.mpr ⟨kp_getr, ?_⟩
  refine List.forall_mem_cons.mpr ⟨kp_alen, ?_⟩
  refine List.forall_mem_cons.mpr ⟨kp_icmp, ?_⟩
  refine List.forall_mem_cons.mpr ⟨kp_const, ?_⟩
  refine List.forall_mem_cons.mpr ⟨kp_iret, ?_⟩
  refine List.forall_mem_cons.mpr ⟨kp_new, ?_⟩
  refine List.forall_mem_cons.mpr ⟨kp_dup, ?_⟩
  refine List.forall_mem_cons.mpr ⟨kp_aload, ?_⟩
  refine List.forall_mem_cons.mpr ⟨kp_geti, ?_⟩
  refine List.forall_mem_cons.mpr ⟨kp_iload, ?_⟩
  refine List.forall_mem_cons.mpr ⟨kp_callv, ?_⟩
  refine List.forall_mem_cons.mpr ⟨kp_astore, ?_⟩
  refine List.forall_mem_cons.mpr ⟨kp_aload, ?_⟩
  refine List.forall_mem_cons.mpr ⟨kp_getr, ?_⟩
  refine List.forall_mem_cons.mpr ⟨kp_aload, ?_⟩
  refine List.forall_mem_cons.mpr ⟨kp_geti, ?_⟩
  refine List.forall_mem_cons.mpr ⟨kp_aload, ?_⟩
  refine List.forall_mem_cons.mpr ⟨kp_rast, ?_⟩
  refine List.forall_mem_cons.mpr ⟨kp_aload, ?_⟩
  refine List.forall_mem_cons.mpr ⟨kp_geti, ?_⟩
  refine List.forall_mem_cons.mpr ⟨kp_istore, ?_⟩
  refine List.forall_mem_cons.mpr ⟨kp_iload, ?_⟩
  refine List.forall_mem_cons.mpr ⟨kp_if, ?_⟩
  refine List.forall_mem_cons.mpr ⟨kp_aload, ?_⟩
  refine List.forall_mem_cons.mpr ⟨kp_getr, ?_⟩
  refine List.forall_mem_cons.mpr ⟨kp_iload, ?_⟩
  refine List.forall_mem_cons.mpr ⟨kp_const, ?_⟩
  refine List.forall_mem_cons.mpr ⟨kp_bin (f := fun x y => x - y), ?_⟩
  refine List.forall_mem_cons.mpr ⟨kp_rald, ?_⟩
  refine List.forall_mem_cons.mpr ⟨kp_ifnull, ?_⟩
  refine List.forall_mem_cons.mpr ⟨kp_aload, ?_⟩
  refine List.forall_mem_cons.mpr ⟨kp_getr, ?_⟩
  refine List.forall_mem_cons.mpr ⟨kp_iload, ?_⟩
  refine List.forall_mem_cons.mpr ⟨kp_const, ?_⟩
  refine List.forall_mem_cons.mpr ⟨kp_bin (f := fun x y => x - y), ?_⟩
  refine List.forall_mem_cons.mpr ⟨kp_rald, ?_⟩
  refine List.forall_mem_cons.mpr ⟨kp_aload, ?_⟩
  refine List.forall_mem_cons.mpr ⟨kp_callv, ?_⟩
  refine List.forall_mem_cons.mpr ⟨kp_if, ?_⟩
  refine List.forall_mem_cons.mpr ⟨kp_aload, ?_⟩
  refine List.forall_mem_cons.mpr ⟨kp_getr, ?_⟩
  refine List.forall_mem_cons.mpr ⟨kp_iload, ?_⟩
  refine List.forall_mem_cons.mpr ⟨kp_aload, ?_⟩
  refine List.forall_mem_cons.mpr ⟨kp_getr, ?_⟩
  refine List.forall_mem_cons.mpr ⟨kp_iload, ?_⟩
  refine List.forall_mem_cons.mpr ⟨kp_const, ?_⟩
  refine List.forall_mem_cons.mpr ⟨kp_bin (f := fun x y => x - y), ?_⟩
  refine List.forall_mem_cons.mpr ⟨kp_rald, ?_⟩
  refine List.forall_mem_cons.mpr ⟨kp_rast, ?_⟩
  refine List.forall_mem_cons.mpr ⟨kp_iinc, ?_⟩
  refine List.forall_mem_cons.mpr ⟨kp_goto, ?_⟩
  refine List.forall_mem_cons.mpr ⟨kp_aload, ?_⟩
  refine List.forall_mem_cons.mpr ⟨kp_getr, ?_⟩
  refine List.forall_mem_cons.mpr ⟨kp_iload, ?_⟩
  refine List.forall_mem_cons.mpr ⟨kp_aload, ?_⟩
  refine List.forall_mem_cons.mpr ⟨kp_rast, ?_⟩
  refine List.forall_mem_cons.mpr ⟨kp_aload, ?_⟩
  refine List.forall_mem_cons.mpr ⟨kp_dup, ?_⟩
  refine List.forall_mem_cons.mpr ⟨kp_geti, ?_⟩
  refine List.forall_mem_cons.mpr ⟨kp_const, ?_⟩
  refine List.forall_mem_cons.mpr ⟨kp_bin (f := fun x y => x + y), ?_⟩
  refine List.forall_mem_cons.mpr ⟨kp_puti, ?_⟩
  refine List.forall_mem_cons.mpr ⟨kp_aload, ?_⟩
  refine List.forall_mem_cons.mpr ⟨kp_geti, ?_⟩
  refine List.forall_mem_cons.mpr ⟨kp_iret, ?_⟩
  exact List.forall_mem_nil _
theorem kqX3_tell : ∀ q ∈ tX3_tell, KP q.2 := by
  unfold tX3_tell
  refine List.forall_mem_cons.mpr ⟨kp_aload, ?_⟩
  refine List.forall_mem_cons.mpr ⟨kp_geti, ?_⟩
  refine List.forall_mem_cons.mpr ⟨kp_aload, ?_⟩
  refine List.forall_mem_cons.mpr ⟨kp_getr, ?_⟩
  refine List.forall_mem_cons.mpr ⟨kp_alen, ?_⟩
  refine List.forall_mem_cons.mpr ⟨kp_icmp, ?_⟩
  refine List.forall_mem_cons.mpr ⟨kp_const, ?_⟩
  refine List.forall_mem_cons.mpr ⟨kp_iret, ?_⟩
  refine List.forall_mem_cons.mpr ⟨kp_aload, ?_⟩
  refine List.forall_mem_cons.mpr ⟨kp_getr, ?_⟩
  refine List.forall_mem_cons.mpr ⟨kp_aload, ?_⟩
  refine List.forall_mem_cons.mpr ⟨kp_geti, ?_⟩
  refine List.forall_mem_cons.mpr ⟨kp_aload, ?_⟩
  refine List.forall_mem_cons.mpr ⟨kp_rast, ?_⟩
  refine List.forall_mem_cons.mpr ⟨kp_aload, ?_⟩
  refine List.forall_mem_cons.mpr ⟨kp_dup, ?_⟩
  refine List.forall_mem_cons.mpr ⟨kp_geti, ?_⟩
  refine List.forall_mem_cons.mpr ⟨kp_const, ?_⟩
  refine List.forall_mem_cons.mpr ⟨kp_bin (f := fun x y => x + y), ?_⟩
  refine List.forall_mem_cons.mpr ⟨kp_puti, ?_⟩
  refine List.forall_mem_cons.mpr ⟨kp_aload, ?_⟩
  refine List.forall_mem_cons.mpr ⟨kp_geti, ?_⟩
  refine List.forall_mem_cons.mpr ⟨kp_const, ?_⟩
  refine List.forall_mem_cons.mpr ⟨kp_bin (f := fun x y => x - y), ?_⟩
  refine List.forall_mem_cons.mpr ⟨kp_iret, ?_⟩
  exact List.forall_mem_nil _
theorem kqX3_latestWord : ∀ q ∈ tX3_latestWord, KP q.2 := by
  unfold tX3_latestWord
  refine List.forall_mem_cons.mpr ⟨kp_iload, ?_⟩
  refine List.forall_mem_cons.mpr ⟨kp_const, ?_⟩
  refine List.forall_mem_cons.mpr ⟨kp_bin (f := fun x y => x - y), ?_⟩
  refine List.forall_mem_cons.mpr ⟨kp_istore, ?_⟩
  refine List.forall_mem_cons.mpr ⟨kp_iload, ?_⟩
  refine List.forall_mem_cons.mpr ⟨kp_if, ?_⟩
  refine List.forall_mem_cons.mpr ⟨kp_aload, ?_⟩
  refine List.forall_mem_cons.mpr ⟨kp_iload, ?_⟩
  refine List.forall_mem_cons.mpr ⟨kp_callv, ?_⟩
  refine List.forall_mem_cons.mpr ⟨kp_astore, ?_⟩
  refine List.forall_mem_cons.mpr ⟨kp_aload, ?_⟩
  refine List.forall_mem_cons.mpr ⟨kp_ifnull, ?_⟩
  refine List.forall_mem_cons.mpr ⟨kp_aload, ?_⟩
  refine List.forall_mem_cons.mpr ⟨kp_aload, ?_⟩
  refine List.forall_mem_cons.mpr ⟨kp_callv, ?_⟩
  refine List.forall_mem_cons.mpr ⟨kp_if, ?_⟩
  refine List.forall_mem_cons.mpr ⟨kp_aload, ?_⟩
  refine List.forall_mem_cons.mpr ⟨kp_iload, ?_⟩
  refine List.forall_mem_cons.mpr ⟨kp_iload, ?_⟩
  refine List.forall_mem_cons.mpr ⟨kp_callv, ?_⟩
  refine List.forall_mem_cons.mpr ⟨kp_if, ?_⟩
  refine List.forall_mem_cons.mpr ⟨kp_iload, ?_⟩
  refine List.forall_mem_cons.mpr ⟨kp_iret, ?_⟩
  refine List.forall_mem_cons.mpr ⟨kp_iinc, ?_⟩
  refine List.forall_mem_cons.mpr ⟨kp_goto, ?_⟩
  refine List.forall_mem_cons.mpr ⟨kp_const, ?_⟩
  refine List.forall_mem_cons.mpr ⟨kp_iret, ?_⟩
  exact List.forall_mem_nil _
theorem kqX4_init : ∀ q ∈ tX4_init, KP q.2 := by
  unfold tX4_init
  refine List.forall_mem_cons.mpr ⟨kp_aload, ?_⟩
  refine List.forall_mem_cons.mpr ⟨kp_objinit, ?_⟩
  refine List.forall_mem_cons.mpr ⟨kp_aload, ?_⟩
  refine List.forall_mem_cons.mpr ⟨kp_const, ?_⟩
  refine List.forall_mem_cons.mpr ⟨kp_puti, ?_⟩
  refine List.forall_mem_cons.mpr ⟨kp_aload, ?_⟩
  refine List.forall_mem_cons.mpr ⟨kp_const, ?_⟩
  refine List.forall_mem_cons.mpr ⟨kp_puti, ?_⟩
  refine List.forall_mem_cons.mpr ⟨kp_aload, ?_⟩
  refine List.forall_mem_cons.mpr ⟨kp_const, ?_⟩
  refine List.forall_mem_cons.mpr ⟨kp_puti, ?_⟩
  refine List.forall_mem_cons.mpr ⟨kp_aload, ?_⟩
  refine List.forall_mem_cons.mpr ⟨kp_const, ?_⟩
  refine List.forall_mem_cons.mpr ⟨kp_puti, ?_⟩
  refine List.forall_mem_cons.mpr ⟨kp_aload, ?_⟩
  refine List.forall_mem_cons.mpr ⟨kp_const, ?_⟩
  refine List.forall_mem_cons.mpr ⟨kp_puti, ?_⟩
  refine List.forall_mem_cons.mpr ⟨kp_aload, ?_⟩
  refine List.forall_mem_cons.mpr ⟨kp_const, ?_⟩
  refine List.forall_mem_cons.mpr ⟨kp_newa, ?_⟩
  refine List.forall_mem_cons.mpr ⟨kp_putr, ?_⟩
  refine List.forall_mem_cons.mpr ⟨kp_vret, ?_⟩
  exact List.forall_mem_nil _
theorem kqX4_at : ∀ q ∈ tX4_at, KP q.2 := by
  unfold tX4_at
  refine List.forall_mem_cons.mpr ⟨kp_iload, ?_⟩
  refine List.forall_mem_cons.mpr ⟨kp_if, ?_⟩
  refine List.forall_mem_cons.mpr ⟨kp_iload, ?_⟩
  refine List.forall_mem_cons.mpr ⟨kp_aload, ?_⟩
  refine List.forall_mem_cons.mpr ⟨kp_geti, ?_⟩
  refine List.forall_mem_cons.mpr ⟨kp_icmp, ?_⟩
  refine List.forall_mem_cons.mpr ⟨kp_iload, ?_⟩
  refine List.forall_mem_cons.mpr ⟨kp_aload, ?_⟩
  refine List.forall_mem_cons.mpr ⟨kp_getr, ?_⟩
  refine List.forall_mem_cons.mpr ⟨kp_alen, ?_⟩
  refine List.forall_mem_cons.mpr ⟨kp_icmp, ?_⟩
  refine List.forall_mem_cons.mpr ⟨kp_aload, ?_⟩
  refine List.forall_mem_cons.mpr ⟨kp_getr, ?_⟩
  refine List.forall_mem_cons.mpr ⟨kp_iload, ?_⟩
  refine List.forall_mem_cons.mpr ⟨kp_rald, ?_⟩
  refine List.forall_mem_cons.mpr ⟨kp_goto, ?_⟩
  refine List.forall_mem_cons.mpr ⟨kp_const, ?_⟩
  refine List.forall_mem_cons.mpr ⟨kp_aret, ?_⟩
  exact List.forall_mem_nil _
theorem kqX4_gather : ∀ q ∈ tX4_gather, KP q.2 := by
  unfold tX4_gather
  refine List.forall_mem_cons.mpr ⟨kp_aload, ?_⟩
  refine List.forall_mem_cons.mpr ⟨kp_const, ?_⟩
  refine List.forall_mem_cons.mpr ⟨kp_puti, ?_⟩
  refine List.forall_mem_cons.mpr ⟨kp_aload, ?_⟩
  refine List.forall_mem_cons.mpr ⟨kp_aload, ?_⟩
  refine List.forall_mem_cons.mpr ⟨kp_geti, ?_⟩
  refine List.forall_mem_cons.mpr ⟨kp_puti, ?_⟩
  refine List.forall_mem_cons.mpr ⟨kp_const, ?_⟩
  refine List.forall_mem_cons.mpr ⟨kp_istore, ?_⟩
  refine List.forall_mem_cons.mpr ⟨kp_iload, ?_⟩
  refine List.forall_mem_cons.mpr ⟨kp_aload, ?_⟩
  refine List.forall_mem_cons.mpr ⟨kp_geti, ?_⟩
  refine List.forall_mem_cons.mpr ⟨kp_icmp, ?_⟩
  refine List.forall_mem_cons.mpr ⟨kp_aload, ?_⟩
  refine List.forall_mem_cons.mpr ⟨kp_iload, ?_⟩
  refine List.forall_mem_cons.mpr ⟨kp_callv, ?_⟩
  refine List.forall_mem_cons.mpr ⟨kp_astore, ?_⟩
  refine List.forall_mem_cons.mpr ⟨kp_aload, ?_⟩
  refine List.forall_mem_cons.mpr ⟨kp_ifnull, ?_⟩
  refine List.forall_mem_cons.mpr ⟨kp_const, ?_⟩
  refine List.forall_mem_cons.mpr ⟨kp_goto, ?_⟩
  refine List.forall_mem_cons.mpr ⟨kp_aload, ?_⟩
  refine List.forall_mem_cons.mpr ⟨kp_aload, ?_⟩
  refine List.forall_mem_cons.mpr ⟨kp_callv, ?_⟩
  refine List.forall_mem_cons.mpr ⟨kp_istore, ?_⟩
  refine List.forall_mem_cons.mpr ⟨kp_iload, ?_⟩
  refine List.forall_mem_cons.mpr ⟨kp_if, ?_⟩
  refine List.forall_mem_cons.mpr ⟨kp_aload, ?_⟩
  refine List.forall_mem_cons.mpr ⟨kp_geti, ?_⟩
  refine List.forall_mem_cons.mpr ⟨kp_aload, ?_⟩
  refine List.forall_mem_cons.mpr ⟨kp_getr, ?_⟩
  refine List.forall_mem_cons.mpr ⟨kp_alen, ?_⟩
  refine List.forall_mem_cons.mpr ⟨kp_icmp, ?_⟩
  refine List.forall_mem_cons.mpr ⟨kp_const, ?_⟩
  refine List.forall_mem_cons.mpr ⟨kp_zret, ?_⟩
  refine List.forall_mem_cons.mpr ⟨kp_aload, ?_⟩
  refine List.forall_mem_cons.mpr ⟨kp_getr, ?_⟩
  refine List.forall_mem_cons.mpr ⟨kp_aload, ?_⟩
  refine List.forall_mem_cons.mpr ⟨kp_geti, ?_⟩
  refine List.forall_mem_cons.mpr ⟨kp_rald, ?_⟩
  refine List.forall_mem_cons.mpr ⟨kp_ifnull, ?_⟩
  refine List.forall_mem_cons.mpr ⟨kp_aload, ?_⟩
  refine List.forall_mem_cons.mpr ⟨kp_getr, ?_⟩
  refine List.forall_mem_cons.mpr ⟨kp_aload, ?_⟩
  refine List.forall_mem_cons.mpr ⟨kp_geti, ?_⟩
  refine List.forall_mem_cons.mpr ⟨kp_new, ?_⟩
  refine List.forall_mem_cons.mpr ⟨kp_dup, ?_⟩
  refine List.forall_mem_cons.mpr ⟨kp_callv, ?_⟩
  refine List.forall_mem_cons.mpr ⟨kp_rast, ?_⟩
  refine List.forall_mem_cons.mpr ⟨kp_aload, ?_⟩
  refine List.forall_mem_cons.mpr ⟨kp_getr, ?_⟩
  refine List.forall_mem_cons.mpr ⟨kp_aload, ?_⟩
  refine List.forall_mem_cons.mpr ⟨kp_geti, ?_⟩
  refine List.forall_mem_cons.mpr ⟨kp_rald, ?_⟩
  refine List.forall_mem_cons.mpr ⟨kp_aload, ?_⟩
  refine List.forall_mem_cons.mpr ⟨kp_iload, ?_⟩
  refine List.forall_mem_cons.mpr ⟨kp_aload, ?_⟩
  refine List.forall_mem_cons.mpr ⟨kp_callv, ?_⟩
  refine List.forall_mem_cons.mpr ⟨kp_aload, ?_⟩
  refine List.forall_mem_cons.mpr ⟨kp_dup, ?_⟩
  refine List.forall_mem_cons.mpr ⟨kp_geti, ?_⟩
  refine List.forall_mem_cons.mpr ⟨kp_const, ?_⟩
  refine List.forall_mem_cons.mpr ⟨kp_bin (f := fun x y => x + y), ?_⟩
  refine List.forall_mem_cons.mpr ⟨kp_puti, ?_⟩
  refine List.forall_mem_cons.mpr ⟨kp_iinc, ?_⟩
  refine List.forall_mem_cons.mpr ⟨kp_goto, ?_⟩
  refine List.forall_mem_cons.mpr ⟨kp_const, ?_⟩
  refine List.forall_mem_cons.mpr ⟨kp_zret, ?_⟩
  exact List.forall_mem_nil _
theorem kqX4_prepare : ∀ q ∈ tX4_prepare, KP q.2 := by
  unfold tX4_prepare
  refine List.forall_mem_cons.mpr ⟨kp_const, ?_⟩
  refine List.forall_mem_cons.mpr ⟨kp_istore, ?_⟩
  refine List.forall_mem_cons.mpr ⟨kp_const, ?_⟩
  refine List.forall_mem_cons.mpr ⟨kp_istore, ?_⟩
  refine List.forall_mem_cons.mpr ⟨kp_aload, ?_⟩
  refine List.forall_mem_cons.mpr ⟨kp_geti, ?_⟩
  refine List.forall_mem_cons.mpr ⟨kp_const, ?_⟩
  refine List.forall_mem_cons.mpr ⟨kp_bin (f := fun x y => x - y), ?_⟩
  refine List.forall_mem_cons.mpr ⟨kp_istore, ?_⟩
  refine List.forall_mem_cons.mpr ⟨kp_iload, ?_⟩
  refine List.forall_mem_cons.mpr ⟨kp_if, ?_⟩
  refine List.forall_mem_cons.mpr ⟨kp_aload, ?_⟩
  refine List.forall_mem_cons.mpr ⟨kp_iload, ?_⟩
  refine List.forall_mem_cons.mpr ⟨kp_callv, ?_⟩
  refine List.forall_mem_cons.mpr ⟨kp_astore, ?_⟩
  refine List.forall_mem_cons.mpr ⟨kp_aload, ?_⟩
  refine List.forall_mem_cons.mpr ⟨kp_ifnull, ?_⟩
  refine List.forall_mem_cons.mpr ⟨kp_aload, ?_⟩
  refine List.forall_mem_cons.mpr ⟨kp_aload, ?_⟩
  refine List.forall_mem_cons.mpr ⟨kp_aload, ?_⟩
  refine List.forall_mem_cons.mpr ⟨kp_iload, ?_⟩
  refine List.forall_mem_cons.mpr ⟨kp_callv, ?_⟩
  refine List.forall_mem_cons.mpr ⟨kp_putz, ?_⟩
  refine List.forall_mem_cons.mpr ⟨kp_aload, ?_⟩
  refine List.forall_mem_cons.mpr ⟨kp_aload, ?_⟩
  refine List.forall_mem_cons.mpr ⟨kp_geti, ?_⟩
  refine List.forall_mem_cons.mpr ⟨kp_if, ?_⟩
  refine List.forall_mem_cons.mpr ⟨kp_aload, ?_⟩
  refine List.forall_mem_cons.mpr ⟨kp_geti, ?_⟩
  refine List.forall_mem_cons.mpr ⟨kp_iload, ?_⟩
  refine List.forall_mem_cons.mpr ⟨kp_icmp, ?_⟩
  refine List.forall_mem_cons.mpr ⟨kp_const, ?_⟩
  refine List.forall_mem_cons.mpr ⟨kp_goto, ?_⟩
  refine List.forall_mem_cons.mpr ⟨kp_const, ?_⟩
  refine List.forall_mem_cons.mpr ⟨kp_putz, ?_⟩
  refine List.forall_mem_cons.mpr ⟨kp_iload, ?_⟩
  refine List.forall_mem_cons.mpr ⟨kp_aload, ?_⟩
  refine List.forall_mem_cons.mpr ⟨kp_geti, ?_⟩
  refine List.forall_mem_cons.mpr ⟨kp_if, ?_⟩
  refine List.forall_mem_cons.mpr ⟨kp_const, ?_⟩
  refine List.forall_mem_cons.mpr ⟨kp_goto, ?_⟩
  refine List.forall_mem_cons.mpr ⟨kp_const, ?_⟩
  refine List.forall_mem_cons.mpr ⟨kp_bin (f := fun x y => x + y), ?_⟩
  refine List.forall_mem_cons.mpr ⟨kp_istore, ?_⟩
  refine List.forall_mem_cons.mpr ⟨kp_iload, ?_⟩
  refine List.forall_mem_cons.mpr ⟨kp_aload, ?_⟩
  refine List.forall_mem_cons.mpr ⟨kp_geti, ?_⟩
  refine List.forall_mem_cons.mpr ⟨kp_if, ?_⟩
  refine List.forall_mem_cons.mpr ⟨kp_aload, ?_⟩
  refine List.forall_mem_cons.mpr ⟨kp_geti, ?_⟩
  refine List.forall_mem_cons.mpr ⟨kp_goto, ?_⟩
  refine List.forall_mem_cons.mpr ⟨kp_const, ?_⟩
  refine List.forall_mem_cons.mpr ⟨kp_bin (f := fun x y => x + y), ?_⟩
  refine List.forall_mem_cons.mpr ⟨kp_istore, ?_⟩
  refine List.forall_mem_cons.mpr ⟨kp_aload, ?_⟩
  refine List.forall_mem_cons.mpr ⟨kp_iload, ?_⟩
  refine List.forall_mem_cons.mpr ⟨kp_puti, ?_⟩
  refine List.forall_mem_cons.mpr ⟨kp_aload, ?_⟩
  refine List.forall_mem_cons.mpr ⟨kp_iload, ?_⟩
  refine List.forall_mem_cons.mpr ⟨kp_puti, ?_⟩
  refine List.forall_mem_cons.mpr ⟨kp_aload, ?_⟩
  refine List.forall_mem_cons.mpr ⟨kp_aload, ?_⟩
  refine List.forall_mem_cons.mpr ⟨kp_iload, ?_⟩
  refine List.forall_mem_cons.mpr ⟨kp_callv, ?_⟩
  refine List.forall_mem_cons.mpr ⟨kp_iinc, ?_⟩
  refine List.forall_mem_cons.mpr ⟨kp_goto, ?_⟩
  refine List.forall_mem_cons.mpr ⟨kp_vret, ?_⟩
  exact List.forall_mem_nil _
theorem kqX4_hasUnderWay : ∀ q ∈ tX4_hasUnderWay, KP q.2 := by
  unfold tX4_hasUnderWay
  refine List.forall_mem_cons.mpr ⟨kp_const, ?_⟩
  refine List.forall_mem_cons.mpr ⟨kp_istore, ?_⟩
  refine List.forall_mem_cons.mpr ⟨kp_iload, ?_⟩
  refine List.forall_mem_cons.mpr ⟨kp_aload, ?_⟩
  refine List.forall_mem_cons.mpr ⟨kp_geti, ?_⟩
  refine List.forall_mem_cons.mpr ⟨kp_icmp, ?_⟩
  refine List.forall_mem_cons.mpr ⟨kp_aload, ?_⟩
  refine List.forall_mem_cons.mpr ⟨kp_iload, ?_⟩
  refine List.forall_mem_cons.mpr ⟨kp_callv, ?_⟩
  refine List.forall_mem_cons.mpr ⟨kp_astore, ?_⟩
  refine List.forall_mem_cons.mpr ⟨kp_aload, ?_⟩
  refine List.forall_mem_cons.mpr ⟨kp_ifnull, ?_⟩
  refine List.forall_mem_cons.mpr ⟨kp_aload, ?_⟩
  refine List.forall_mem_cons.mpr ⟨kp_geti, ?_⟩
  refine List.forall_mem_cons.mpr ⟨kp_if, ?_⟩
  refine List.forall_mem_cons.mpr ⟨kp_aload, ?_⟩
  refine List.forall_mem_cons.mpr ⟨kp_geti, ?_⟩
  refine List.forall_mem_cons.mpr ⟨kp_iload, ?_⟩
  refine List.forall_mem_cons.mpr ⟨kp_icmp, ?_⟩
  refine List.forall_mem_cons.mpr ⟨kp_aload, ?_⟩
  refine List.forall_mem_cons.mpr ⟨kp_aload, ?_⟩
  refine List.forall_mem_cons.mpr ⟨kp_callv, ?_⟩
  refine List.forall_mem_cons.mpr ⟨kp_if, ?_⟩
  refine List.forall_mem_cons.mpr ⟨kp_const, ?_⟩
  refine List.forall_mem_cons.mpr ⟨kp_zret, ?_⟩
  refine List.forall_mem_cons.mpr ⟨kp_iinc, ?_⟩
  refine List.forall_mem_cons.mpr ⟨kp_goto, ?_⟩
  refine List.forall_mem_cons.mpr ⟨kp_const, ?_⟩
  refine List.forall_mem_cons.mpr ⟨kp_zret, ?_⟩
  exact List.forall_mem_nil _
theorem kqX4_markEarlier : ∀ q ∈ tX4_markEarlier, KP q.2 := by
  unfold tX4_markEarlier
  refine List.forall_mem_cons.mpr ⟨kp_aload, ?_⟩
  refine List.forall_mem_cons.mpr ⟨kp_const, ?_⟩
  refine List.forall_mem_cons.mpr ⟨kp_puti, ?_⟩
  refine List.forall_mem_cons.mpr ⟨kp_aload, ?_⟩
  refine List.forall_mem_cons.mpr ⟨kp_const, ?_⟩
  refine List.forall_mem_cons.mpr ⟨kp_puti, ?_⟩
  refine List.forall_mem_cons.mpr ⟨kp_const, ?_⟩
  refine List.forall_mem_cons.mpr ⟨kp_istore, ?_⟩
  refine List.forall_mem_cons.mpr ⟨kp_iload, ?_⟩
  refine List.forall_mem_cons.mpr ⟨kp_iload, ?_⟩
  refine List.forall_mem_cons.mpr ⟨kp_icmp, ?_⟩
  refine List.forall_mem_cons.mpr ⟨kp_aload, ?_⟩
  refine List.forall_mem_cons.mpr ⟨kp_iload, ?_⟩
  refine List.forall_mem_cons.mpr ⟨kp_callv, ?_⟩
  refine List.forall_mem_cons.mpr ⟨kp_astore, ?_⟩
  refine List.forall_mem_cons.mpr ⟨kp_aload, ?_⟩
  refine List.forall_mem_cons.mpr ⟨kp_ifnull, ?_⟩
  refine List.forall_mem_cons.mpr ⟨kp_aload, ?_⟩
  refine List.forall_mem_cons.mpr ⟨kp_aload, ?_⟩
  refine List.forall_mem_cons.mpr ⟨kp_geti, ?_⟩
  refine List.forall_mem_cons.mpr ⟨kp_callv, ?_⟩
  refine List.forall_mem_cons.mpr ⟨kp_if, ?_⟩
  refine List.forall_mem_cons.mpr ⟨kp_aload, ?_⟩
  refine List.forall_mem_cons.mpr ⟨kp_dup, ?_⟩
  refine List.forall_mem_cons.mpr ⟨kp_geti, ?_⟩
  refine List.forall_mem_cons.mpr ⟨kp_const, ?_⟩
  refine List.forall_mem_cons.mpr ⟨kp_iload, ?_⟩
  refine List.forall_mem_cons.mpr ⟨kp_bin (f := fun x y => x <<< (y &&& 31)), ?_⟩
  refine List.forall_mem_cons.mpr ⟨kp_bin (f := fun x y => x ||| y), ?_⟩
  refine List.forall_mem_cons.mpr ⟨kp_puti, ?_⟩
  refine List.forall_mem_cons.mpr ⟨kp_aload, ?_⟩
  refine List.forall_mem_cons.mpr ⟨kp_ifnull, ?_⟩
  refine List.forall_mem_cons.mpr ⟨kp_aload, ?_⟩
  refine List.forall_mem_cons.mpr ⟨kp_aload, ?_⟩
  refine List.forall_mem_cons.mpr ⟨kp_callv, ?_⟩
  refine List.forall_mem_cons.mpr ⟨kp_if, ?_⟩
  refine List.forall_mem_cons.mpr ⟨kp_aload, ?_⟩
  refine List.forall_mem_cons.mpr ⟨kp_dup, ?_⟩
  refine List.forall_mem_cons.mpr ⟨kp_geti, ?_⟩
  refine List.forall_mem_cons.mpr ⟨kp_const, ?_⟩
  refine List.forall_mem_cons.mpr ⟨kp_iload, ?_⟩
  refine List.forall_mem_cons.mpr ⟨kp_bin (f := fun x y => x <<< (y &&& 31)), ?_⟩
  refine List.forall_mem_cons.mpr ⟨kp_bin (f := fun x y => x ||| y), ?_⟩
  refine List.forall_mem_cons.mpr ⟨kp_puti, ?_⟩
  refine List.forall_mem_cons.mpr ⟨kp_iinc, ?_⟩
  refine List.forall_mem_cons.mpr ⟨kp_goto, ?_⟩
  refine List.forall_mem_cons.mpr ⟨kp_vret, ?_⟩
  exact List.forall_mem_nil _
theorem kqX4_settle : ∀ q ∈ tX4_settle, KP q.2 := by
  unfold tX4_settle
  refine List.forall_mem_cons.mpr ⟨kp_aload, ?_⟩
  refine List.forall_mem_cons.mpr ⟨kp_const, ?_⟩
  refine List.forall_mem_cons.mpr ⟨kp_puti, ?_⟩
  refine List.forall_mem_cons.mpr ⟨kp_aload, ?_⟩
  refine List.forall_mem_cons.mpr ⟨kp_const, ?_⟩
  refine List.forall_mem_cons.mpr ⟨kp_puti, ?_⟩
  refine List.forall_mem_cons.mpr ⟨kp_aload, ?_⟩
  refine List.forall_mem_cons.mpr ⟨kp_const, ?_⟩
  refine List.forall_mem_cons.mpr ⟨kp_puti, ?_⟩
  refine List.forall_mem_cons.mpr ⟨kp_const, ?_⟩
  refine List.forall_mem_cons.mpr ⟨kp_istore, ?_⟩
  refine List.forall_mem_cons.mpr ⟨kp_iload, ?_⟩
  refine List.forall_mem_cons.mpr ⟨kp_aload, ?_⟩
  refine List.forall_mem_cons.mpr ⟨kp_geti, ?_⟩
  refine List.forall_mem_cons.mpr ⟨kp_icmp, ?_⟩
  refine List.forall_mem_cons.mpr ⟨kp_aload, ?_⟩
  refine List.forall_mem_cons.mpr ⟨kp_iload, ?_⟩
  refine List.forall_mem_cons.mpr ⟨kp_callv, ?_⟩
  refine List.forall_mem_cons.mpr ⟨kp_astore, ?_⟩
  refine List.forall_mem_cons.mpr ⟨kp_aload, ?_⟩
  refine List.forall_mem_cons.mpr ⟨kp_ifnull, ?_⟩
  refine List.forall_mem_cons.mpr ⟨kp_aload, ?_⟩
  refine List.forall_mem_cons.mpr ⟨kp_iload, ?_⟩
  refine List.forall_mem_cons.mpr ⟨kp_iload, ?_⟩
  refine List.forall_mem_cons.mpr ⟨kp_bin (f := fun x y => x >>> (y &&& 31)), ?_⟩
  refine List.forall_mem_cons.mpr ⟨kp_const, ?_⟩
  refine List.forall_mem_cons.mpr ⟨kp_bin (f := fun x y => x &&& y), ?_⟩
  refine List.forall_mem_cons.mpr ⟨kp_const, ?_⟩
  refine List.forall_mem_cons.mpr ⟨kp_icmp, ?_⟩
  refine List.forall_mem_cons.mpr ⟨kp_const, ?_⟩
  refine List.forall_mem_cons.mpr ⟨kp_goto, ?_⟩
  refine List.forall_mem_cons.mpr ⟨kp_const, ?_⟩
  refine List.forall_mem_cons.mpr ⟨kp_putz, ?_⟩
  refine List.forall_mem_cons.mpr ⟨kp_aload, ?_⟩
  refine List.forall_mem_cons.mpr ⟨kp_dup, ?_⟩
  refine List.forall_mem_cons.mpr ⟨kp_geti, ?_⟩
  refine List.forall_mem_cons.mpr ⟨kp_aload, ?_⟩
  refine List.forall_mem_cons.mpr ⟨kp_geti, ?_⟩
  refine List.forall_mem_cons.mpr ⟨kp_if, ?_⟩
  refine List.forall_mem_cons.mpr ⟨kp_const, ?_⟩
  refine List.forall_mem_cons.mpr ⟨kp_goto, ?_⟩
  refine List.forall_mem_cons.mpr ⟨kp_const, ?_⟩
  refine List.forall_mem_cons.mpr ⟨kp_bin (f := fun x y => x + y), ?_⟩
  refine List.forall_mem_cons.mpr ⟨kp_puti, ?_⟩
  refine List.forall_mem_cons.mpr ⟨kp_aload, ?_⟩
  refine List.forall_mem_cons.mpr ⟨kp_dup, ?_⟩
  refine List.forall_mem_cons.mpr ⟨kp_geti, ?_⟩
  refine List.forall_mem_cons.mpr ⟨kp_aload, ?_⟩
  refine List.forall_mem_cons.mpr ⟨kp_geti, ?_⟩
  refine List.forall_mem_cons.mpr ⟨kp_if, ?_⟩
  refine List.forall_mem_cons.mpr ⟨kp_aload, ?_⟩
  refine List.forall_mem_cons.mpr ⟨kp_geti, ?_⟩
  refine List.forall_mem_cons.mpr ⟨kp_goto, ?_⟩
  refine List.forall_mem_cons.mpr ⟨kp_const, ?_⟩
  refine List.forall_mem_cons.mpr ⟨kp_bin (f := fun x y => x + y), ?_⟩
  refine List.forall_mem_cons.mpr ⟨kp_puti, ?_⟩
  refine List.forall_mem_cons.mpr ⟨kp_aload, ?_⟩
  refine List.forall_mem_cons.mpr ⟨kp_dup, ?_⟩
  refine List.forall_mem_cons.mpr ⟨kp_geti, ?_⟩
  refine List.forall_mem_cons.mpr ⟨kp_aload, ?_⟩
  refine List.forall_mem_cons.mpr ⟨kp_geti, ?_⟩
  refine List.forall_mem_cons.mpr ⟨kp_if, ?_⟩
  refine List.forall_mem_cons.mpr ⟨kp_aload, ?_⟩
  refine List.forall_mem_cons.mpr ⟨kp_callv, ?_⟩
  refine List.forall_mem_cons.mpr ⟨kp_goto, ?_⟩
  refine List.forall_mem_cons.mpr ⟨kp_const, ?_⟩
  refine List.forall_mem_cons.mpr ⟨kp_bin (f := fun x y => x + y), ?_⟩
  refine List.forall_mem_cons.mpr ⟨kp_puti, ?_⟩
  refine List.forall_mem_cons.mpr ⟨kp_iinc, ?_⟩
  refine List.forall_mem_cons.mpr ⟨kp_goto, ?_⟩
  refine List.forall_mem_cons.mpr ⟨kp_vret, ?_⟩
  exact List.forall_mem_nil _
theorem kqX4_explain : ∀ q ∈ tX4_explain, KP q.2 := by
  unfold tX4_explain
  refine List.forall_mem_cons.mpr ⟨kp_const, ?_⟩
  refine List.forall_mem_cons.mpr ⟨kp_istore, ?_⟩
  refine List.forall_mem_cons.mpr ⟨kp_iload, ?_⟩
  refine List.forall_mem_cons.mpr ⟨kp_aload, ?_⟩
  refine List.forall_mem_cons.mpr ⟨kp_geti, ?_⟩
  refine List.forall_mem_cons.mpr ⟨kp_icmp, ?_⟩
  refine List.forall_mem_cons.mpr ⟨kp_aload, ?_⟩
  refine List.forall_mem_cons.mpr ⟨kp_iload, ?_⟩
  refine List.forall_mem_cons.mpr ⟨kp_callv, ?_⟩
  refine List.forall_mem_cons.mpr ⟨kp_astore, ?_⟩
  refine List.forall_mem_cons.mpr ⟨kp_aload, ?_⟩
  refine List.forall_mem_cons.mpr ⟨kp_ifnull, ?_⟩
  refine List.forall_mem_cons.mpr ⟨kp_aload, ?_⟩
  refine List.forall_mem_cons.mpr ⟨kp_aload, ?_⟩
  refine List.forall_mem_cons.mpr ⟨kp_aload, ?_⟩
  refine List.forall_mem_cons.mpr ⟨kp_aload, ?_⟩
  refine List.forall_mem_cons.mpr ⟨kp_callv, ?_⟩
  refine List.forall_mem_cons.mpr ⟨kp_puti, ?_⟩
  refine List.forall_mem_cons.mpr ⟨kp_aload, ?_⟩
  refine List.forall_mem_cons.mpr ⟨kp_aload, ?_⟩
  refine List.forall_mem_cons.mpr ⟨kp_aload, ?_⟩
  refine List.forall_mem_cons.mpr ⟨kp_callv, ?_⟩
  refine List.forall_mem_cons.mpr ⟨kp_puti, ?_⟩
  refine List.forall_mem_cons.mpr ⟨kp_iinc, ?_⟩
  refine List.forall_mem_cons.mpr ⟨kp_goto, ?_⟩
  refine List.forall_mem_cons.mpr ⟨kp_vret, ?_⟩
  exact List.forall_mem_nil _
theorem kqX4_whyNot : ∀ q ∈ tX4_whyNot, KP q.2 := by
  unfold tX4_whyNot
  refine List.forall_mem_cons.mpr ⟨kp_aload, ?_⟩
  refine List.forall_mem_cons.mpr ⟨kp_geti, ?_⟩
  refine List.forall_mem_cons.mpr ⟨kp_if, ?_⟩
  refine List.forall_mem_cons.mpr ⟨kp_const, ?_⟩
  refine List.forall_mem_cons.mpr ⟨kp_iret, ?_⟩
  refine List.forall_mem_cons.mpr ⟨kp_aload, ?_⟩
  refine List.forall_mem_cons.mpr ⟨kp_geti, ?_⟩
  refine List.forall_mem_cons.mpr ⟨kp_if, ?_⟩
  refine List.forall_mem_cons.mpr ⟨kp_const, ?_⟩
  refine List.forall_mem_cons.mpr ⟨kp_iret, ?_⟩
  refine List.forall_mem_cons.mpr ⟨kp_aload, ?_⟩
  refine List.forall_mem_cons.mpr ⟨kp_aload, ?_⟩
  refine List.forall_mem_cons.mpr ⟨kp_callv, ?_⟩
  refine List.forall_mem_cons.mpr ⟨kp_const, ?_⟩
  refine List.forall_mem_cons.mpr ⟨kp_icmp, ?_⟩
  refine List.forall_mem_cons.mpr ⟨kp_const, ?_⟩
  refine List.forall_mem_cons.mpr ⟨kp_iret, ?_⟩
  refine List.forall_mem_cons.mpr ⟨kp_aload, ?_⟩
  refine List.forall_mem_cons.mpr ⟨kp_aload, ?_⟩
  refine List.forall_mem_cons.mpr ⟨kp_aload, ?_⟩
  refine List.forall_mem_cons.mpr ⟨kp_geti, ?_⟩
  refine List.forall_mem_cons.mpr ⟨kp_callv, ?_⟩
  refine List.forall_mem_cons.mpr ⟨kp_if, ?_⟩
  refine List.forall_mem_cons.mpr ⟨kp_const, ?_⟩
  refine List.forall_mem_cons.mpr ⟨kp_iret, ?_⟩
  refine List.forall_mem_cons.mpr ⟨kp_aload, ?_⟩
  refine List.forall_mem_cons.mpr ⟨kp_geti, ?_⟩
  refine List.forall_mem_cons.mpr ⟨kp_aload, ?_⟩
  refine List.forall_mem_cons.mpr ⟨kp_callv, ?_⟩
  refine List.forall_mem_cons.mpr ⟨kp_bin (f := fun x y => x + y), ?_⟩
  refine List.forall_mem_cons.mpr ⟨kp_aload, ?_⟩
  refine List.forall_mem_cons.mpr ⟨kp_geti, ?_⟩
  refine List.forall_mem_cons.mpr ⟨kp_icmp, ?_⟩
  refine List.forall_mem_cons.mpr ⟨kp_const, ?_⟩
  refine List.forall_mem_cons.mpr ⟨kp_goto, ?_⟩
  refine List.forall_mem_cons.mpr ⟨kp_const, ?_⟩
  refine List.forall_mem_cons.mpr ⟨kp_iret, ?_⟩
  exact List.forall_mem_nil _
theorem kqX4_rivalOf : ∀ q ∈ tX4_rivalOf, KP q.2 := by
  unfold tX4_rivalOf
  refine List.forall_mem_cons.mpr ⟨kp_aload, ?_⟩
  refine List.forall_mem_cons.mpr ⟨kp_geti, ?_⟩
  refine List.forall_mem_cons.mpr ⟨kp_sw, ?_⟩
  refine List.forall_mem_cons.mpr ⟨kp_aload, ?_⟩
  refine List.forall_mem_cons.mpr ⟨kp_aload, ?_⟩
  refine List.forall_mem_cons.mpr ⟨kp_callv, ?_⟩
  refine List.forall_mem_cons.mpr ⟨kp_iret, ?_⟩
  refine List.forall_mem_cons.mpr ⟨kp_aload, ?_⟩
  refine List.forall_mem_cons.mpr ⟨kp_aload, ?_⟩
  refine List.forall_mem_cons.mpr ⟨kp_callv, ?_⟩
  refine List.forall_mem_cons.mpr ⟨kp_iret, ?_⟩
  refine List.forall_mem_cons.mpr ⟨kp_const, ?_⟩
  refine List.forall_mem_cons.mpr ⟨kp_iret, ?_⟩
  exact List.forall_mem_nil _
theorem kqX4_memberOneWith : ∀ q ∈ tX4_memberOneWith, KP q.2 := by
  unfold tX4_memberOneWith
  refine List.forall_mem_cons.mpr ⟨kp_const, ?_⟩
  refine List.forall_mem_cons.mpr ⟨kp_istore, ?_⟩
  refine List.forall_mem_cons.mpr ⟨kp_iload, ?_⟩
  refine List.forall_mem_cons.mpr ⟨kp_aload, ?_⟩
  refine List.forall_mem_cons.mpr ⟨kp_geti, ?_⟩
  refine List.forall_mem_cons.mpr ⟨kp_icmp, ?_⟩
  refine List.forall_mem_cons.mpr ⟨kp_aload, ?_⟩
  refine List.forall_mem_cons.mpr ⟨kp_iload, ?_⟩
  refine List.forall_mem_cons.mpr ⟨kp_callv, ?_⟩
  refine List.forall_mem_cons.mpr ⟨kp_astore, ?_⟩
  refine List.forall_mem_cons.mpr ⟨kp_aload, ?_⟩
  refine List.forall_mem_cons.mpr ⟨kp_ifnull, ?_⟩
  refine List.forall_mem_cons.mpr ⟨kp_aload, ?_⟩
  refine List.forall_mem_cons.mpr ⟨kp_geti, ?_⟩
  refine List.forall_mem_cons.mpr ⟨kp_if, ?_⟩
  refine List.forall_mem_cons.mpr ⟨kp_aload, ?_⟩
  refine List.forall_mem_cons.mpr ⟨kp_aload, ?_⟩
  refine List.forall_mem_cons.mpr ⟨kp_callv, ?_⟩
  refine List.forall_mem_cons.mpr ⟨kp_if, ?_⟩
  refine List.forall_mem_cons.mpr ⟨kp_iload, ?_⟩
  refine List.forall_mem_cons.mpr ⟨kp_iret, ?_⟩
  refine List.forall_mem_cons.mpr ⟨kp_iinc, ?_⟩
  refine List.forall_mem_cons.mpr ⟨kp_goto, ?_⟩
  refine List.forall_mem_cons.mpr ⟨kp_const, ?_⟩
  refine List.forall_mem_cons.mpr ⟨kp_iret, ?_⟩
  exact List.forall_mem_nil _
theorem kqX4_isCrowdedWith : ∀ q ∈ tX4_isCrowdedWith, KP q.2 := by
  unfold tX4_isCrowdedWith
  refine List.forall_mem_cons.mpr ⟨kp_aload, ?_⟩
  refine List.forall_mem_cons.mpr ⟨kp_aload, ?_⟩
  refine List.forall_mem_cons.mpr ⟨kp_geti, ?_⟩
  refine List.forall_mem_cons.mpr ⟨kp_callv, ?_⟩
  refine List.forall_mem_cons.mpr ⟨kp_iload, ?_⟩
  refine List.forall_mem_cons.mpr ⟨kp_icmp, ?_⟩
  refine List.forall_mem_cons.mpr ⟨kp_const, ?_⟩
  refine List.forall_mem_cons.mpr ⟨kp_zret, ?_⟩
  refine List.forall_mem_cons.mpr ⟨kp_const, ?_⟩
  refine List.forall_mem_cons.mpr ⟨kp_istore, ?_⟩
  refine List.forall_mem_cons.mpr ⟨kp_iload, ?_⟩
  refine List.forall_mem_cons.mpr ⟨kp_aload, ?_⟩
  refine List.forall_mem_cons.mpr ⟨kp_geti, ?_⟩
  refine List.forall_mem_cons.mpr ⟨kp_icmp, ?_⟩
  refine List.forall_mem_cons.mpr ⟨kp_aload, ?_⟩
  refine List.forall_mem_cons.mpr ⟨kp_iload, ?_⟩
  refine List.forall_mem_cons.mpr ⟨kp_callv, ?_⟩
  refine List.forall_mem_cons.mpr ⟨kp_astore, ?_⟩
  refine List.forall_mem_cons.mpr ⟨kp_aload, ?_⟩
  refine List.forall_mem_cons.mpr ⟨kp_ifnull, ?_⟩
  refine List.forall_mem_cons.mpr ⟨kp_aload, ?_⟩
  refine List.forall_mem_cons.mpr ⟨kp_geti, ?_⟩
  refine List.forall_mem_cons.mpr ⟨kp_if, ?_⟩
  refine List.forall_mem_cons.mpr ⟨kp_aload, ?_⟩
  refine List.forall_mem_cons.mpr ⟨kp_aload, ?_⟩
  refine List.forall_mem_cons.mpr ⟨kp_geti, ?_⟩
  refine List.forall_mem_cons.mpr ⟨kp_callv, ?_⟩
  refine List.forall_mem_cons.mpr ⟨kp_if, ?_⟩
  refine List.forall_mem_cons.mpr ⟨kp_aload, ?_⟩
  refine List.forall_mem_cons.mpr ⟨kp_aload, ?_⟩
  refine List.forall_mem_cons.mpr ⟨kp_geti, ?_⟩
  refine List.forall_mem_cons.mpr ⟨kp_callv, ?_⟩
  refine List.forall_mem_cons.mpr ⟨kp_iload, ?_⟩
  refine List.forall_mem_cons.mpr ⟨kp_icmp, ?_⟩
  refine List.forall_mem_cons.mpr ⟨kp_const, ?_⟩
  refine List.forall_mem_cons.mpr ⟨kp_zret, ?_⟩
  refine List.forall_mem_cons.mpr ⟨kp_iinc, ?_⟩
  refine List.forall_mem_cons.mpr ⟨kp_goto, ?_⟩
  refine List.forall_mem_cons.mpr ⟨kp_const, ?_⟩
  refine List.forall_mem_cons.mpr ⟨kp_zret, ?_⟩
  exact List.forall_mem_nil _
theorem kqX4_membersOn : ∀ q ∈ tX4_membersOn, KP q.2 := by
  unfold tX4_membersOn
  refine List.forall_mem_cons.mpr ⟨kp_const, ?_⟩
  refine List.forall_mem_cons.mpr ⟨kp_istore, ?_⟩
  refine List.forall_mem_cons.mpr ⟨kp_const, ?_⟩
  refine List.forall_mem_cons.mpr ⟨kp_istore, ?_⟩
  refine List.forall_mem_cons.mpr ⟨kp_iload, ?_⟩
  refine List.forall_mem_cons.mpr ⟨kp_aload, ?_⟩
  refine List.forall_mem_cons.mpr ⟨kp_geti, ?_⟩
  refine List.forall_mem_cons.mpr ⟨kp_icmp, ?_⟩
  refine List.forall_mem_cons.mpr ⟨kp_aload, ?_⟩
  refine List.forall_mem_cons.mpr ⟨kp_iload, ?_⟩
  refine List.forall_mem_cons.mpr ⟨kp_callv, ?_⟩
  refine List.forall_mem_cons.mpr ⟨kp_astore, ?_⟩
  refine List.forall_mem_cons.mpr ⟨kp_aload, ?_⟩
  refine List.forall_mem_cons.mpr ⟨kp_ifnull, ?_⟩
  refine List.forall_mem_cons.mpr ⟨kp_aload, ?_⟩
  refine List.forall_mem_cons.mpr ⟨kp_geti, ?_⟩
  refine List.forall_mem_cons.mpr ⟨kp_if, ?_⟩
  refine List.forall_mem_cons.mpr ⟨kp_aload, ?_⟩
  refine List.forall_mem_cons.mpr ⟨kp_iload, ?_⟩
  refine List.forall_mem_cons.mpr ⟨kp_callv, ?_⟩
  refine List.forall_mem_cons.mpr ⟨kp_if, ?_⟩
  refine List.forall_mem_cons.mpr ⟨kp_iinc, ?_⟩
  refine List.forall_mem_cons.mpr ⟨kp_iinc, ?_⟩
  refine List.forall_mem_cons.mpr ⟨kp_goto, ?_⟩
  refine List.forall_mem_cons.mpr ⟨kp_iload, ?_⟩
  refine List.forall_mem_cons.mpr ⟨kp_iret, ?_⟩
  exact List.forall_mem_nil _
theorem kqX4_lightestMemberMeeting : ∀ q ∈ tX4_lightestMemberMeeting, KP q.2 := by
  unfold tX4_lightestMemberMeeting
  refine List.forall_mem_cons.mpr ⟨kp_const, ?_⟩
  refine List.forall_mem_cons.mpr ⟨kp_istore, ?_⟩
  refine List.forall_mem_cons.mpr ⟨kp_const, ?_⟩
  refine List.forall_mem_cons.mpr ⟨kp_istore, ?_⟩
  refine List.forall_mem_cons.mpr ⟨kp_const, ?_⟩
  refine List.forall_mem_cons.mpr ⟨kp_istore, ?_⟩
  refine List.forall_mem_cons.mpr ⟨kp_iload, ?_⟩
  refine List.forall_mem_cons.mpr ⟨kp_aload, ?_⟩
  refine List.forall_mem_cons.mpr ⟨kp_geti, ?_⟩
  refine List.forall_mem_cons.mpr ⟨kp_icmp, ?_⟩
  refine List.forall_mem_cons.mpr ⟨kp_aload, ?_⟩
  refine List.forall_mem_cons.mpr ⟨kp_iload, ?_⟩
  refine List.forall_mem_cons.mpr ⟨kp_callv, ?_⟩
  refine List.forall_mem_cons.mpr ⟨kp_astore, ?_⟩
  refine List.forall_mem_cons.mpr ⟨kp_aload, ?_⟩
  refine List.forall_mem_cons.mpr ⟨kp_ifnull, ?_⟩
  refine List.forall_mem_cons.mpr ⟨kp_aload, ?_⟩
  refine List.forall_mem_cons.mpr ⟨kp_geti, ?_⟩
  refine List.forall_mem_cons.mpr ⟨kp_if, ?_⟩
  refine List.forall_mem_cons.mpr ⟨kp_aload, ?_⟩
  refine List.forall_mem_cons.mpr ⟨kp_aload, ?_⟩
  refine List.forall_mem_cons.mpr ⟨kp_callv, ?_⟩
  refine List.forall_mem_cons.mpr ⟨kp_if, ?_⟩
  refine List.forall_mem_cons.mpr ⟨kp_iload, ?_⟩
  refine List.forall_mem_cons.mpr ⟨kp_const, ?_⟩
  refine List.forall_mem_cons.mpr ⟨kp_icmp, ?_⟩
  refine List.forall_mem_cons.mpr ⟨kp_aload, ?_⟩
  refine List.forall_mem_cons.mpr ⟨kp_geti, ?_⟩
  refine List.forall_mem_cons.mpr ⟨kp_iload, ?_⟩
  refine List.forall_mem_cons.mpr ⟨kp_icmp, ?_⟩
  refine List.forall_mem_cons.mpr ⟨kp_iload, ?_⟩
  refine List.forall_mem_cons.mpr ⟨kp_istore, ?_⟩
  refine List.forall_mem_cons.mpr ⟨kp_aload, ?_⟩
  refine List.forall_mem_cons.mpr ⟨kp_geti, ?_⟩
  refine List.forall_mem_cons.mpr ⟨kp_istore, ?_⟩
  refine List.forall_mem_cons.mpr ⟨kp_iinc, ?_⟩
  refine List.forall_mem_cons.mpr ⟨kp_goto, ?_⟩
  refine List.forall_mem_cons.mpr ⟨kp_iload, ?_⟩
  refine List.forall_mem_cons.mpr ⟨kp_iret, ?_⟩
  exact List.forall_mem_nil _
theorem kqX5_init : ∀ q ∈ tX5_init, KP q.2 := by
  unfold tX5_init
  refine List.forall_mem_cons.mpr ⟨kp_aload, ?_⟩
  refine List.forall_mem_cons.mpr ⟨kp_objinit, ?_⟩
  refine List.forall_mem_cons.mpr ⟨kp_aload, ?_⟩
  refine List.forall_mem_cons.mpr ⟨kp_const, ?_⟩
  refine List.forall_mem_cons.mpr ⟨kp_puti, ?_⟩
  refine List.forall_mem_cons.mpr ⟨kp_aload, ?_⟩
  refine List.forall_mem_cons.mpr ⟨kp_const, ?_⟩
  refine List.forall_mem_cons.mpr ⟨kp_puti, ?_⟩
  refine List.forall_mem_cons.mpr ⟨kp_aload, ?_⟩
  refine List.forall_mem_cons.mpr ⟨kp_const, ?_⟩
  refine List.forall_mem_cons.mpr ⟨kp_puti, ?_⟩
  refine List.forall_mem_cons.mpr ⟨kp_aload, ?_⟩
  refine List.forall_mem_cons.mpr ⟨kp_const, ?_⟩
  refine List.forall_mem_cons.mpr ⟨kp_puti, ?_⟩
  refine List.forall_mem_cons.mpr ⟨kp_aload, ?_⟩
  refine List.forall_mem_cons.mpr ⟨kp_const, ?_⟩
  refine List.forall_mem_cons.mpr ⟨kp_puti, ?_⟩
  refine List.forall_mem_cons.mpr ⟨kp_aload, ?_⟩
  refine List.forall_mem_cons.mpr ⟨kp_const, ?_⟩
  refine List.forall_mem_cons.mpr ⟨kp_puti, ?_⟩
  refine List.forall_mem_cons.mpr ⟨kp_aload, ?_⟩
  refine List.forall_mem_cons.mpr ⟨kp_const, ?_⟩
  refine List.forall_mem_cons.mpr ⟨kp_puti, ?_⟩
  refine List.forall_mem_cons.mpr ⟨kp_aload, ?_⟩
  refine List.forall_mem_cons.mpr ⟨kp_const, ?_⟩
  refine List.forall_mem_cons.mpr ⟨kp_puti, ?_⟩
  refine List.forall_mem_cons.mpr ⟨kp_aload, ?_⟩
  refine List.forall_mem_cons.mpr ⟨kp_const, ?_⟩
  refine List.forall_mem_cons.mpr ⟨kp_puti, ?_⟩
  refine List.forall_mem_cons.mpr ⟨kp_aload, ?_⟩
  refine List.forall_mem_cons.mpr ⟨kp_const, ?_⟩
  refine List.forall_mem_cons.mpr ⟨kp_puti, ?_⟩
  refine List.forall_mem_cons.mpr ⟨kp_aload, ?_⟩
  refine List.forall_mem_cons.mpr ⟨kp_const, ?_⟩
  refine List.forall_mem_cons.mpr ⟨kp_puti, ?_⟩
  refine List.forall_mem_cons.mpr ⟨kp_aload, ?_⟩
  refine List.forall_mem_cons.mpr ⟨kp_const, ?_⟩
  refine List.forall_mem_cons.mpr ⟨kp_puti, ?_⟩
  refine List.forall_mem_cons.mpr ⟨kp_aload, ?_⟩
  refine List.forall_mem_cons.mpr ⟨kp_const, ?_⟩
  refine List.forall_mem_cons.mpr ⟨kp_puti, ?_⟩
  refine List.forall_mem_cons.mpr ⟨kp_vret, ?_⟩
  exact List.forall_mem_nil _
theorem kqX5_choose : ∀ q ∈ tX5_choose, KP q.2 := by
  unfold tX5_choose
  refine List.forall_mem_cons.mpr ⟨kp_aload, ?_⟩
  refine List.forall_mem_cons.mpr ⟨kp_const, ?_⟩
  refine List.forall_mem_cons.mpr ⟨kp_puti, ?_⟩
  refine List.forall_mem_cons.mpr ⟨kp_aload, ?_⟩
  refine List.forall_mem_cons.mpr ⟨kp_const, ?_⟩
  refine List.forall_mem_cons.mpr ⟨kp_puti, ?_⟩
  refine List.forall_mem_cons.mpr ⟨kp_aload, ?_⟩
  refine List.forall_mem_cons.mpr ⟨kp_const, ?_⟩
  refine List.forall_mem_cons.mpr ⟨kp_puti, ?_⟩
  refine List.forall_mem_cons.mpr ⟨kp_aload, ?_⟩
  refine List.forall_mem_cons.mpr ⟨kp_const, ?_⟩
  refine List.forall_mem_cons.mpr ⟨kp_puti, ?_⟩
  refine List.forall_mem_cons.mpr ⟨kp_aload, ?_⟩
  refine List.forall_mem_cons.mpr ⟨kp_const, ?_⟩
  refine List.forall_mem_cons.mpr ⟨kp_puti, ?_⟩
  refine List.forall_mem_cons.mpr ⟨kp_aload, ?_⟩
  refine List.forall_mem_cons.mpr ⟨kp_const, ?_⟩
  refine List.forall_mem_cons.mpr ⟨kp_puti, ?_⟩
  refine List.forall_mem_cons.mpr ⟨kp_aload, ?_⟩
  refine List.forall_mem_cons.mpr ⟨kp_aload, ?_⟩
  refine List.forall_mem_cons.mpr ⟨kp_const, ?_⟩
  refine List.forall_mem_cons.mpr ⟨kp_callv, ?_⟩
  refine List.forall_mem_cons.mpr ⟨kp_aload, ?_⟩
  refine List.forall_mem_cons.mpr ⟨kp_aload, ?_⟩
  refine List.forall_mem_cons.mpr ⟨kp_geti, ?_⟩
  refine List.forall_mem_cons.mpr ⟨kp_callv, ?_⟩
  refine List.forall_mem_cons.mpr ⟨kp_vret, ?_⟩
  exact List.forall_mem_nil _
theorem kqX5_search : ∀ q ∈ tX5_search, KP q.2 := by
  unfold tX5_search
  refine List.forall_mem_cons.mpr ⟨kp_aload, ?_⟩
  refine List.forall_mem_cons.mpr ⟨kp_iload, ?_⟩
  refine List.forall_mem_cons.mpr ⟨kp_callv, ?_⟩
  refine List.forall_mem_cons.mpr ⟨kp_astore, ?_⟩
  refine List.forall_mem_cons.mpr ⟨kp_aload, ?_⟩
  refine List.forall_mem_cons.mpr ⟨kp_aload, ?_⟩
  refine List.forall_mem_cons.mpr ⟨kp_callv, ?_⟩
  refine List.forall_mem_cons.mpr ⟨kp_if, ?_⟩
  refine List.forall_mem_cons.mpr ⟨kp_vret, ?_⟩
  refine List.forall_mem_cons.mpr ⟨kp_aload, ?_⟩
  refine List.forall_mem_cons.mpr ⟨kp_ifnull, ?_⟩
  refine List.forall_mem_cons.mpr ⟨kp_aload, ?_⟩
  refine List.forall_mem_cons.mpr ⟨kp_callv, ?_⟩
  refine List.forall_mem_cons.mpr ⟨kp_vret, ?_⟩
  refine List.forall_mem_cons.mpr ⟨kp_aload, ?_⟩
  refine List.forall_mem_cons.mpr ⟨kp_aload, ?_⟩
  refine List.forall_mem_cons.mpr ⟨kp_callv, ?_⟩
  refine List.forall_mem_cons.mpr ⟨kp_if, ?_⟩
  refine List.forall_mem_cons.mpr ⟨kp_aload, ?_⟩
  refine List.forall_mem_cons.mpr ⟨kp_aload, ?_⟩
  refine List.forall_mem_cons.mpr ⟨kp_iload, ?_⟩
  refine List.forall_mem_cons.mpr ⟨kp_const, ?_⟩
  refine List.forall_mem_cons.mpr ⟨kp_callv, ?_⟩
  refine List.forall_mem_cons.mpr ⟨kp_aload, ?_⟩
  refine List.forall_mem_cons.mpr ⟨kp_aload, ?_⟩
  refine List.forall_mem_cons.mpr ⟨kp_iload, ?_⟩
  refine List.forall_mem_cons.mpr ⟨kp_const, ?_⟩
  refine List.forall_mem_cons.mpr ⟨kp_bin (f := fun x y => x + y), ?_⟩
  refine List.forall_mem_cons.mpr ⟨kp_callv, ?_⟩
  refine List.forall_mem_cons.mpr ⟨kp_aload, ?_⟩
  refine List.forall_mem_cons.mpr ⟨kp_aload, ?_⟩
  refine List.forall_mem_cons.mpr ⟨kp_iload, ?_⟩
  refine List.forall_mem_cons.mpr ⟨kp_const, ?_⟩
  refine List.forall_mem_cons.mpr ⟨kp_callv, ?_⟩
  refine List.forall_mem_cons.mpr ⟨kp_aload, ?_⟩
  refine List.forall_mem_cons.mpr ⟨kp_aload, ?_⟩
  refine List.forall_mem_cons.mpr ⟨kp_iload, ?_⟩
  refine List.forall_mem_cons.mpr ⟨kp_const, ?_⟩
  refine List.forall_mem_cons.mpr ⟨kp_bin (f := fun x y => x + y), ?_⟩
  refine List.forall_mem_cons.mpr ⟨kp_callv, ?_⟩
  refine List.forall_mem_cons.mpr ⟨kp_vret, ?_⟩
  exact List.forall_mem_nil _
theorem kqX5_canBeatBest : ∀ q ∈ tX5_canBeatBest, KP q.2 := by
  unfold tX5_canBeatBest
  refine List.forall_mem_cons.mpr ⟨kp_aload, ?_⟩
  refine List.forall_mem_cons.mpr ⟨kp_geti, ?_⟩
  refine List.forall_mem_cons.mpr ⟨kp_aload, ?_⟩
  refine List.forall_mem_cons.mpr ⟨kp_ifnull, ?_⟩
  refine List.forall_mem_cons.mpr ⟨kp_const, ?_⟩
  refine List.forall_mem_cons.mpr ⟨kp_goto, ?_⟩
  refine List.forall_mem_cons.mpr ⟨kp_aload, ?_⟩
  refine List.forall_mem_cons.mpr ⟨kp_geti, ?_⟩
  refine List.forall_mem_cons.mpr ⟨kp_bin (f := fun x y => x + y), ?_⟩
  refine List.forall_mem_cons.mpr ⟨kp_istore, ?_⟩
  refine List.forall_mem_cons.mpr ⟨kp_iload, ?_⟩
  refine List.forall_mem_cons.mpr ⟨kp_aload, ?_⟩
  refine List.forall_mem_cons.mpr ⟨kp_geti, ?_⟩
  refine List.forall_mem_cons.mpr ⟨kp_icmp, ?_⟩
  refine List.forall_mem_cons.mpr ⟨kp_iload, ?_⟩
  refine List.forall_mem_cons.mpr ⟨kp_aload, ?_⟩
  refine List.forall_mem_cons.mpr ⟨kp_geti, ?_⟩
  refine List.forall_mem_cons.mpr ⟨kp_icmp, ?_⟩
  refine List.forall_mem_cons.mpr ⟨kp_const, ?_⟩
  refine List.forall_mem_cons.mpr ⟨kp_goto, ?_⟩
  refine List.forall_mem_cons.mpr ⟨kp_const, ?_⟩
  refine List.forall_mem_cons.mpr ⟨kp_zret, ?_⟩
  refine List.forall_mem_cons.mpr ⟨kp_aload, ?_⟩
  refine List.forall_mem_cons.mpr ⟨kp_geti, ?_⟩
  refine List.forall_mem_cons.mpr ⟨kp_aload, ?_⟩
  refine List.forall_mem_cons.mpr ⟨kp_ifnull, ?_⟩
  refine List.forall_mem_cons.mpr ⟨kp_const, ?_⟩
  refine List.forall_mem_cons.mpr ⟨kp_goto, ?_⟩
  refine List.forall_mem_cons.mpr ⟨kp_aload, ?_⟩
  refine List.forall_mem_cons.mpr ⟨kp_geti, ?_⟩
  refine List.forall_mem_cons.mpr ⟨kp_bin (f := fun x y => x + y), ?_⟩
  refine List.forall_mem_cons.mpr ⟨kp_istore, ?_⟩
  refine List.forall_mem_cons.mpr ⟨kp_iload, ?_⟩
  refine List.forall_mem_cons.mpr ⟨kp_aload, ?_⟩
  refine List.forall_mem_cons.mpr ⟨kp_geti, ?_⟩
  refine List.forall_mem_cons.mpr ⟨kp_icmp, ?_⟩
  refine List.forall_mem_cons.mpr ⟨kp_iload, ?_⟩
  refine List.forall_mem_cons.mpr ⟨kp_aload, ?_⟩
  refine List.forall_mem_cons.mpr ⟨kp_geti, ?_⟩
  refine List.forall_mem_cons.mpr ⟨kp_icmp, ?_⟩
  refine List.forall_mem_cons.mpr ⟨kp_const, ?_⟩
  refine List.forall_mem_cons.mpr ⟨kp_goto, ?_⟩
  refine List.forall_mem_cons.mpr ⟨kp_const, ?_⟩
  refine List.forall_mem_cons.mpr ⟨kp_zret, ?_⟩
  refine List.forall_mem_cons.mpr ⟨kp_aload, ?_⟩
  refine List.forall_mem_cons.mpr ⟨kp_geti, ?_⟩
  refine List.forall_mem_cons.mpr ⟨kp_aload, ?_⟩
  refine List.forall_mem_cons.mpr ⟨kp_geti, ?_⟩
  refine List.forall_mem_cons.mpr ⟨kp_icmp, ?_⟩
  refine List.forall_mem_cons.mpr ⟨kp_const, ?_⟩
  refine List.forall_mem_cons.mpr ⟨kp_goto, ?_⟩
  refine List.forall_mem_cons.mpr ⟨kp_const, ?_⟩
  refine List.forall_mem_cons.mpr ⟨kp_zret, ?_⟩
  exact List.forall_mem_nil _
theorem kqX5_keepAsBest : ∀ q ∈ tX5_keepAsBest, KP q.2 := by
  unfold tX5_keepAsBest
  refine List.forall_mem_cons.mpr ⟨kp_aload, ?_⟩
  refine List.forall_mem_cons.mpr ⟨kp_aload, ?_⟩
  refine List.forall_mem_cons.mpr ⟨kp_geti, ?_⟩
  refine List.forall_mem_cons.mpr ⟨kp_puti, ?_⟩
  refine List.forall_mem_cons.mpr ⟨kp_aload, ?_⟩
  refine List.forall_mem_cons.mpr ⟨kp_aload, ?_⟩
  refine List.forall_mem_cons.mpr ⟨kp_geti, ?_⟩
  refine List.forall_mem_cons.mpr ⟨kp_puti, ?_⟩
  refine List.forall_mem_cons.mpr ⟨kp_aload, ?_⟩
  refine List.forall_mem_cons.mpr ⟨kp_aload, ?_⟩
  refine List.forall_mem_cons.mpr ⟨kp_geti, ?_⟩
  refine List.forall_mem_cons.mpr ⟨kp_puti, ?_⟩
  refine List.forall_mem_cons.mpr ⟨kp_aload, ?_⟩
  refine List.forall_mem_cons.mpr ⟨kp_aload, ?_⟩
  refine List.forall_mem_cons.mpr ⟨kp_geti, ?_⟩
  refine List.forall_mem_cons.mpr ⟨kp_puti, ?_⟩
  refine List.forall_mem_cons.mpr ⟨kp_vret, ?_⟩
  exact List.forall_mem_nil _
theorem kqX5_canAdd : ∀ q ∈ tX5_canAdd, KP q.2 := by
  unfold tX5_canAdd
  refine List.forall_mem_cons.mpr ⟨kp_aload, ?_⟩
  refine List.forall_mem_cons.mpr ⟨kp_geti, ?_⟩
  refine List.forall_mem_cons.mpr ⟨kp_if, ?_⟩
  refine List.forall_mem_cons.mpr ⟨kp_aload, ?_⟩
  refine List.forall_mem_cons.mpr ⟨kp_geti, ?_⟩
  refine List.forall_mem_cons.mpr ⟨kp_aload, ?_⟩
  refine List.forall_mem_cons.mpr ⟨kp_geti, ?_⟩
  refine List.forall_mem_cons.mpr ⟨kp_bin (f := fun x y => x &&& y), ?_⟩
  refine List.forall_mem_cons.mpr ⟨kp_if, ?_⟩
  refine List.forall_mem_cons.mpr ⟨kp_aload, ?_⟩
  refine List.forall_mem_cons.mpr ⟨kp_geti, ?_⟩
  refine List.forall_mem_cons.mpr ⟨kp_aload, ?_⟩
  refine List.forall_mem_cons.mpr ⟨kp_geti, ?_⟩
  refine List.forall_mem_cons.mpr ⟨kp_bin (f := fun x y => x &&& y), ?_⟩
  refine List.forall_mem_cons.mpr ⟨kp_call, ?_⟩
  refine List.forall_mem_cons.mpr ⟨kp_aload, ?_⟩
  refine List.forall_mem_cons.mpr ⟨kp_geti, ?_⟩
  refine List.forall_mem_cons.mpr ⟨kp_icmp, ?_⟩
  refine List.forall_mem_cons.mpr ⟨kp_aload, ?_⟩
  refine List.forall_mem_cons.mpr ⟨kp_geti, ?_⟩
  refine List.forall_mem_cons.mpr ⟨kp_aload, ?_⟩
  refine List.forall_mem_cons.mpr ⟨kp_callv, ?_⟩
  refine List.forall_mem_cons.mpr ⟨kp_bin (f := fun x y => x + y), ?_⟩
  refine List.forall_mem_cons.mpr ⟨kp_aload, ?_⟩
  refine List.forall_mem_cons.mpr ⟨kp_geti, ?_⟩
  refine List.forall_mem_cons.mpr ⟨kp_icmp, ?_⟩
  refine List.forall_mem_cons.mpr ⟨kp_const, ?_⟩
  refine List.forall_mem_cons.mpr ⟨kp_goto, ?_⟩
  refine List.forall_mem_cons.mpr ⟨kp_const, ?_⟩
  refine List.forall_mem_cons.mpr ⟨kp_zret, ?_⟩
  exact List.forall_mem_nil _
theorem kqX5_addOrDrop : ∀ q ∈ tX5_addOrDrop, KP q.2 := by
  unfold tX5_addOrDrop
  refine List.forall_mem_cons.mpr ⟨kp_aload, ?_⟩
  refine List.forall_mem_cons.mpr ⟨kp_dup, ?_⟩
  refine List.forall_mem_cons.mpr ⟨kp_geti, ?_⟩
  refine List.forall_mem_cons.mpr ⟨kp_const, ?_⟩
  refine List.forall_mem_cons.mpr ⟨kp_iload, ?_⟩
  refine List.forall_mem_cons.mpr ⟨kp_bin (f := fun x y => x <<< (y &&& 31)), ?_⟩
  refine List.forall_mem_cons.mpr ⟨kp_bin (f := fun x y => x ^^^ y), ?_⟩
  refine List.forall_mem_cons.mpr ⟨kp_puti, ?_⟩
  refine List.forall_mem_cons.mpr ⟨kp_aload, ?_⟩
  refine List.forall_mem_cons.mpr ⟨kp_dup, ?_⟩
  refine List.forall_mem_cons.mpr ⟨kp_geti, ?_⟩
  refine List.forall_mem_cons.mpr ⟨kp_aload, ?_⟩
  refine List.forall_mem_cons.mpr ⟨kp_geti, ?_⟩
  refine List.forall_mem_cons.mpr ⟨kp_if, ?_⟩
  refine List.forall_mem_cons.mpr ⟨kp_iload, ?_⟩
  refine List.forall_mem_cons.mpr ⟨kp_goto, ?_⟩
  refine List.forall_mem_cons.mpr ⟨kp_const, ?_⟩
  refine List.forall_mem_cons.mpr ⟨kp_bin (f := fun x y => x + y), ?_⟩
  refine List.forall_mem_cons.mpr ⟨kp_puti, ?_⟩
  refine List.forall_mem_cons.mpr ⟨kp_aload, ?_⟩
  refine List.forall_mem_cons.mpr ⟨kp_dup, ?_⟩
  refine List.forall_mem_cons.mpr ⟨kp_geti, ?_⟩
  refine List.forall_mem_cons.mpr ⟨kp_iload, ?_⟩
  refine List.forall_mem_cons.mpr ⟨kp_aload, ?_⟩
  refine List.forall_mem_cons.mpr ⟨kp_geti, ?_⟩
  refine List.forall_mem_cons.mpr ⟨kp_bin (f := fun x y => x * y), ?_⟩
  refine List.forall_mem_cons.mpr ⟨kp_bin (f := fun x y => x + y), ?_⟩
  refine List.forall_mem_cons.mpr ⟨kp_puti, ?_⟩
  refine List.forall_mem_cons.mpr ⟨kp_aload, ?_⟩
  refine List.forall_mem_cons.mpr ⟨kp_dup, ?_⟩
  refine List.forall_mem_cons.mpr ⟨kp_geti, ?_⟩
  refine List.forall_mem_cons.mpr ⟨kp_iload, ?_⟩
  refine List.forall_mem_cons.mpr ⟨kp_aload, ?_⟩
  refine List.forall_mem_cons.mpr ⟨kp_callv, ?_⟩
  refine List.forall_mem_cons.mpr ⟨kp_bin (f := fun x y => x * y), ?_⟩
  refine List.forall_mem_cons.mpr ⟨kp_bin (f := fun x y => x + y), ?_⟩
  refine List.forall_mem_cons.mpr ⟨kp_puti, ?_⟩
  refine List.forall_mem_cons.mpr ⟨kp_vret, ?_⟩
  exact List.forall_mem_nil _
theorem kqX6_init : ∀ q ∈ tX6_init, KP q.2 := by
  unfold tX6_init
  refine List.forall_mem_cons.mpr ⟨kp_aload, ?_⟩
  refine List.forall_mem_cons.mpr ⟨kp_objinit, ?_⟩
  refine List.forall_mem_cons.mpr ⟨kp_vret, ?_⟩
  exact List.forall_mem_nil _
theorem kqX6_fill : ∀ q ∈ tX6_fill, KP q.2 := by
  unfold tX6_fill
  refine List.forall_mem_cons.mpr ⟨kp_aload, ?_⟩
  refine List.forall_mem_cons.mpr ⟨kp_iload, ?_⟩
  refine List.forall_mem_cons.mpr ⟨kp_puti, ?_⟩
  refine List.forall_mem_cons.mpr ⟨kp_aload, ?_⟩
  refine List.forall_mem_cons.mpr ⟨kp_iload, ?_⟩
  refine List.forall_mem_cons.mpr ⟨kp_puti, ?_⟩
  refine List.forall_mem_cons.mpr ⟨kp_aload, ?_⟩
  refine List.forall_mem_cons.mpr ⟨kp_iload, ?_⟩
  refine List.forall_mem_cons.mpr ⟨kp_puti, ?_⟩
  refine List.forall_mem_cons.mpr ⟨kp_aload, ?_⟩
  refine List.forall_mem_cons.mpr ⟨kp_iload, ?_⟩
  refine List.forall_mem_cons.mpr ⟨kp_puti, ?_⟩
  refine List.forall_mem_cons.mpr ⟨kp_aload, ?_⟩
  refine List.forall_mem_cons.mpr ⟨kp_aload, ?_⟩
  refine List.forall_mem_cons.mpr ⟨kp_geti, ?_⟩
  refine List.forall_mem_cons.mpr ⟨kp_puti, ?_⟩
  refine List.forall_mem_cons.mpr ⟨kp_aload, ?_⟩
  refine List.forall_mem_cons.mpr ⟨kp_aload, ?_⟩
  refine List.forall_mem_cons.mpr ⟨kp_geti, ?_⟩
  refine List.forall_mem_cons.mpr ⟨kp_puti, ?_⟩
  refine List.forall_mem_cons.mpr ⟨kp_aload, ?_⟩
  refine List.forall_mem_cons.mpr ⟨kp_aload, ?_⟩
  refine List.forall_mem_cons.mpr ⟨kp_geti, ?_⟩
  refine List.forall_mem_cons.mpr ⟨kp_puti, ?_⟩
  refine List.forall_mem_cons.mpr ⟨kp_aload, ?_⟩
  refine List.forall_mem_cons.mpr ⟨kp_aload, ?_⟩
  refine List.forall_mem_cons.mpr ⟨kp_callv, ?_⟩
  refine List.forall_mem_cons.mpr ⟨kp_puti, ?_⟩
  refine List.forall_mem_cons.mpr ⟨kp_aload, ?_⟩
  refine List.forall_mem_cons.mpr ⟨kp_aload, ?_⟩
  refine List.forall_mem_cons.mpr ⟨kp_geti, ?_⟩
  refine List.forall_mem_cons.mpr ⟨kp_putz, ?_⟩
  refine List.forall_mem_cons.mpr ⟨kp_vret, ?_⟩
  exact List.forall_mem_nil _
theorem kqX6_isDoubtedWith : ∀ q ∈ tX6_isDoubtedWith, KP q.2 := by
  unfold tX6_isDoubtedWith
  refine List.forall_mem_cons.mpr ⟨kp_aload, ?_⟩
  refine List.forall_mem_cons.mpr ⟨kp_geti, ?_⟩
  refine List.forall_mem_cons.mpr ⟨kp_aload, ?_⟩
  refine List.forall_mem_cons.mpr ⟨kp_geti, ?_⟩
  refine List.forall_mem_cons.mpr ⟨kp_icmp, ?_⟩
  refine List.forall_mem_cons.mpr ⟨kp_aload, ?_⟩
  refine List.forall_mem_cons.mpr ⟨kp_geti, ?_⟩
  refine List.forall_mem_cons.mpr ⟨kp_if, ?_⟩
  refine List.forall_mem_cons.mpr ⟨kp_aload, ?_⟩
  refine List.forall_mem_cons.mpr ⟨kp_geti, ?_⟩
  refine List.forall_mem_cons.mpr ⟨kp_if, ?_⟩
  refine List.forall_mem_cons.mpr ⟨kp_const, ?_⟩
  refine List.forall_mem_cons.mpr ⟨kp_goto, ?_⟩
  refine List.forall_mem_cons.mpr ⟨kp_const, ?_⟩
  refine List.forall_mem_cons.mpr ⟨kp_zret, ?_⟩
  exact List.forall_mem_nil _
theorem kqX7_init : ∀ q ∈ tX7_init, KP q.2 := by
  unfold tX7_init
  refine List.forall_mem_cons.mpr ⟨kp_aload, ?_⟩
  refine List.forall_mem_cons.mpr ⟨kp_objinit, ?_⟩
  refine List.forall_mem_cons.mpr ⟨kp_aload, ?_⟩
  refine List.forall_mem_cons.mpr ⟨kp_iload, ?_⟩
  refine List.forall_mem_cons.mpr ⟨kp_puti, ?_⟩
  refine List.forall_mem_cons.mpr ⟨kp_aload, ?_⟩
  refine List.forall_mem_cons.mpr ⟨kp_iload, ?_⟩
  refine List.forall_mem_cons.mpr ⟨kp_puti, ?_⟩
  refine List.forall_mem_cons.mpr ⟨kp_vret, ?_⟩
  exact List.forall_mem_nil _
theorem kqX7_outranks : ∀ q ∈ tX7_outranks, KP q.2 := by
  unfold tX7_outranks
  refine List.forall_mem_cons.mpr ⟨kp_aload, ?_⟩
  refine List.forall_mem_cons.mpr ⟨kp_geti, ?_⟩
  refine List.forall_mem_cons.mpr ⟨kp_aload, ?_⟩
  refine List.forall_mem_cons.mpr ⟨kp_geti, ?_⟩
  refine List.forall_mem_cons.mpr ⟨kp_icmp, ?_⟩
  refine List.forall_mem_cons.mpr ⟨kp_aload, ?_⟩
  refine List.forall_mem_cons.mpr ⟨kp_geti, ?_⟩
  refine List.forall_mem_cons.mpr ⟨kp_aload, ?_⟩
  refine List.forall_mem_cons.mpr ⟨kp_geti, ?_⟩
  refine List.forall_mem_cons.mpr ⟨kp_icmp, ?_⟩
  refine List.forall_mem_cons.mpr ⟨kp_const, ?_⟩
  refine List.forall_mem_cons.mpr ⟨kp_goto, ?_⟩
  refine List.forall_mem_cons.mpr ⟨kp_const, ?_⟩
  refine List.forall_mem_cons.mpr ⟨kp_zret, ?_⟩
  refine List.forall_mem_cons.mpr ⟨kp_aload, ?_⟩
  refine List.forall_mem_cons.mpr ⟨kp_geti, ?_⟩
  refine List.forall_mem_cons.mpr ⟨kp_aload, ?_⟩
  refine List.forall_mem_cons.mpr ⟨kp_geti, ?_⟩
  refine List.forall_mem_cons.mpr ⟨kp_icmp, ?_⟩
  refine List.forall_mem_cons.mpr ⟨kp_const, ?_⟩
  refine List.forall_mem_cons.mpr ⟨kp_goto, ?_⟩
  refine List.forall_mem_cons.mpr ⟨kp_const, ?_⟩
  refine List.forall_mem_cons.mpr ⟨kp_zret, ?_⟩
  exact List.forall_mem_nil _
theorem kqX8_init : ∀ q ∈ tX8_init, KP q.2 := by
  unfold tX8_init
  refine List.forall_mem_cons.mpr ⟨kp_aload, ?_⟩
  refine List.forall_mem_cons.mpr ⟨kp_objinit, ?_⟩
  refine List.forall_mem_cons.mpr ⟨kp_aload, ?_⟩
  refine List.forall_mem_cons.mpr ⟨kp_const, ?_⟩
  refine List.forall_mem_cons.mpr ⟨kp_puti, ?_⟩
  refine List.forall_mem_cons.mpr ⟨kp_aload, ?_⟩
  refine List.forall_mem_cons.mpr ⟨kp_const, ?_⟩
  refine List.forall_mem_cons.mpr ⟨kp_puti, ?_⟩
  refine List.forall_mem_cons.mpr ⟨kp_aload, ?_⟩
  refine List.forall_mem_cons.mpr ⟨kp_const, ?_⟩
  refine List.forall_mem_cons.mpr ⟨kp_puti, ?_⟩
  refine List.forall_mem_cons.mpr ⟨kp_aload, ?_⟩
  refine List.forall_mem_cons.mpr ⟨kp_const, ?_⟩
  refine List.forall_mem_cons.mpr ⟨kp_puti, ?_⟩
  refine List.forall_mem_cons.mpr ⟨kp_aload, ?_⟩
  refine List.forall_mem_cons.mpr ⟨kp_const, ?_⟩
  refine List.forall_mem_cons.mpr ⟨kp_puti, ?_⟩
  refine List.forall_mem_cons.mpr ⟨kp_aload, ?_⟩
  refine List.forall_mem_cons.mpr ⟨kp_const, ?_⟩
  refine List.forall_mem_cons.mpr ⟨kp_newa, ?_⟩
  refine List.forall_mem_cons.mpr ⟨kp_putr, ?_⟩
  refine List.forall_mem_cons.mpr ⟨kp_vret, ?_⟩
  exact List.forall_mem_nil _
theorem kqX8_append : ∀ q ∈ tX8_append, KP q.2 := by
  unfold tX8_append
  refine List.forall_mem_cons.mpr ⟨kp_const, ?_⟩
  refine List.forall_mem_cons.mpr ⟨kp_istore, ?_⟩
  refine List.forall_mem_cons.mpr ⟨kp_iload, ?_⟩
  refine List.forall_mem_cons.mpr ⟨kp_if, ?_⟩
  refine List.forall_mem_cons.mpr ⟨kp_aload, ?_⟩
  refine List.forall_mem_cons.mpr ⟨kp_geti, ?_⟩
  refine List.forall_mem_cons.mpr ⟨kp_aload, ?_⟩
  refine List.forall_mem_cons.mpr ⟨kp_getr, ?_⟩
  refine List.forall_mem_cons.mpr ⟨kp_alen, ?_⟩
  refine List.forall_mem_cons.mpr ⟨kp_icmp, ?_⟩
  refine List.forall_mem_cons.mpr ⟨kp_aload, ?_⟩
  refine List.forall_mem_cons.mpr ⟨kp_getr, ?_⟩
  refine List.forall_mem_cons.mpr ⟨kp_aload, ?_⟩
  refine List.forall_mem_cons.mpr ⟨kp_geti, ?_⟩
  refine List.forall_mem_cons.mpr ⟨kp_iload, ?_⟩
  refine List.forall_mem_cons.mpr ⟨kp_iload, ?_⟩
  refine List.forall_mem_cons.mpr ⟨kp_bin (f := fun x y => x >>> (y &&& 31)), ?_⟩
  refine List.forall_mem_cons.mpr ⟨kp_un, ?_⟩
  refine List.forall_mem_cons.mpr ⟨kp_bast, ?_⟩
  refine List.forall_mem_cons.mpr ⟨kp_aload, ?_⟩
  refine List.forall_mem_cons.mpr ⟨kp_dup, ?_⟩
  refine List.forall_mem_cons.mpr ⟨kp_geti, ?_⟩
  refine List.forall_mem_cons.mpr ⟨kp_const, ?_⟩
  refine List.forall_mem_cons.mpr ⟨kp_bin (f := fun x y => x + y), ?_⟩
  refine List.forall_mem_cons.mpr ⟨kp_puti, ?_⟩
  refine List.forall_mem_cons.mpr ⟨kp_iinc, ?_⟩
  refine List.forall_mem_cons.mpr ⟨kp_goto, ?_⟩
  refine List.forall_mem_cons.mpr ⟨kp_vret, ?_⟩
  exact List.forall_mem_nil _
theorem kqX8_rewind : ∀ q ∈ tX8_rewind, KP q.2 := by
  unfold tX8_rewind
  refine List.forall_mem_cons.mpr ⟨kp_aload, ?_⟩
  refine List.forall_mem_cons.mpr ⟨kp_const, ?_⟩
  refine List.forall_mem_cons.mpr ⟨kp_puti, ?_⟩
  refine List.forall_mem_cons.mpr ⟨kp_vret, ?_⟩
  exact List.forall_mem_nil _
theorem kqX8_advance : ∀ q ∈ tX8_advance, KP q.2 := by
  unfold tX8_advance
  refine List.forall_mem_cons.mpr ⟨kp_aload, ?_⟩
  refine List.forall_mem_cons.mpr ⟨kp_aload, ?_⟩
  refine List.forall_mem_cons.mpr ⟨kp_geti, ?_⟩
  refine List.forall_mem_cons.mpr ⟨kp_puti, ?_⟩
  refine List.forall_mem_cons.mpr ⟨kp_aload, ?_⟩
  refine List.forall_mem_cons.mpr ⟨kp_geti, ?_⟩
  refine List.forall_mem_cons.mpr ⟨kp_aload, ?_⟩
  refine List.forall_mem_cons.mpr ⟨kp_geti, ?_⟩
  refine List.forall_mem_cons.mpr ⟨kp_icmp, ?_⟩
  refine List.forall_mem_cons.mpr ⟨kp_aload, ?_⟩
  refine List.forall_mem_cons.mpr ⟨kp_aload, ?_⟩
  refine List.forall_mem_cons.mpr ⟨kp_geti, ?_⟩
  refine List.forall_mem_cons.mpr ⟨kp_callv, ?_⟩
  refine List.forall_mem_cons.mpr ⟨kp_call, ?_⟩
  refine List.forall_mem_cons.mpr ⟨kp_if, ?_⟩
  refine List.forall_mem_cons.mpr ⟨kp_aload, ?_⟩
  refine List.forall_mem_cons.mpr ⟨kp_dup, ?_⟩
  refine List.forall_mem_cons.mpr ⟨kp_geti, ?_⟩
  refine List.forall_mem_cons.mpr ⟨kp_const, ?_⟩
  refine List.forall_mem_cons.mpr ⟨kp_bin (f := fun x y => x + y), ?_⟩
  refine List.forall_mem_cons.mpr ⟨kp_puti, ?_⟩
  refine List.forall_mem_cons.mpr ⟨kp_goto, ?_⟩
  refine List.forall_mem_cons.mpr ⟨kp_aload, ?_⟩
  refine List.forall_mem_cons.mpr ⟨kp_geti, ?_⟩
  refine List.forall_mem_cons.mpr ⟨kp_aload, ?_⟩
  refine List.forall_mem_cons.mpr ⟨kp_geti, ?_⟩
  refine List.forall_mem_cons.mpr ⟨kp_icmp, ?_⟩
  refine List.forall_mem_cons.mpr ⟨kp_const, ?_⟩
  refine List.forall_mem_cons.mpr ⟨kp_zret, ?_⟩
  refine List.forall_mem_cons.mpr ⟨kp_aload, ?_⟩
  refine List.forall_mem_cons.mpr ⟨kp_aload, ?_⟩
  refine List.forall_mem_cons.mpr ⟨kp_geti, ?_⟩
  refine List.forall_mem_cons.mpr ⟨kp_callv, ?_⟩
  refine List.forall_mem_cons.mpr ⟨kp_istore, ?_⟩
  refine List.forall_mem_cons.mpr ⟨kp_iload, ?_⟩
  refine List.forall_mem_cons.mpr ⟨kp_call, ?_⟩
  refine List.forall_mem_cons.mpr ⟨kp_if, ?_⟩
  refine List.forall_mem_cons.mpr ⟨kp_aload, ?_⟩
  refine List.forall_mem_cons.mpr ⟨kp_callv, ?_⟩
  refine List.forall_mem_cons.mpr ⟨kp_goto, ?_⟩
  refine List.forall_mem_cons.mpr ⟨kp_iload, ?_⟩
  refine List.forall_mem_cons.mpr ⟨kp_call, ?_⟩
  refine List.forall_mem_cons.mpr ⟨kp_if, ?_⟩
  refine List.forall_mem_cons.mpr ⟨kp_aload, ?_⟩
  refine List.forall_mem_cons.mpr ⟨kp_callv, ?_⟩
  refine List.forall_mem_cons.mpr ⟨kp_goto, ?_⟩
  refine List.forall_mem_cons.mpr ⟨kp_aload, ?_⟩
  refine List.forall_mem_cons.mpr ⟨kp_iload, ?_⟩
  refine List.forall_mem_cons.mpr ⟨kp_callv, ?_⟩
  refine List.forall_mem_cons.mpr ⟨kp_const, ?_⟩
  refine List.forall_mem_cons.mpr ⟨kp_zret, ?_⟩
  exact List.forall_mem_nil _
theorem kqX8_scanWord : ∀ q ∈ tX8_scanWord, KP q.2 := by
  unfold tX8_scanWord
  refine List.forall_mem_cons.mpr ⟨kp_aload, ?_⟩
  refine List.forall_mem_cons.mpr ⟨kp_aload, ?_⟩
  refine List.forall_mem_cons.mpr ⟨kp_geti, ?_⟩
  refine List.forall_mem_cons.mpr ⟨kp_const, ?_⟩
  refine List.forall_mem_cons.mpr ⟨kp_bin (f := fun x y => x + y), ?_⟩
  refine List.forall_mem_cons.mpr ⟨kp_puti, ?_⟩
  refine List.forall_mem_cons.mpr ⟨kp_aload, ?_⟩
  refine List.forall_mem_cons.mpr ⟨kp_geti, ?_⟩
  refine List.forall_mem_cons.mpr ⟨kp_aload, ?_⟩
  refine List.forall_mem_cons.mpr ⟨kp_geti, ?_⟩
  refine List.forall_mem_cons.mpr ⟨kp_icmp, ?_⟩
  refine List.forall_mem_cons.mpr ⟨kp_aload, ?_⟩
  refine List.forall_mem_cons.mpr ⟨kp_aload, ?_⟩
  refine List.forall_mem_cons.mpr ⟨kp_geti, ?_⟩
  refine List.forall_mem_cons.mpr ⟨kp_callv, ?_⟩
  refine List.forall_mem_cons.mpr ⟨kp_call, ?_⟩
  refine List.forall_mem_cons.mpr ⟨kp_if, ?_⟩
  refine List.forall_mem_cons.mpr ⟨kp_aload, ?_⟩
  refine List.forall_mem_cons.mpr ⟨kp_dup, ?_⟩
  refine List.forall_mem_cons.mpr ⟨kp_geti, ?_⟩
  refine List.forall_mem_cons.mpr ⟨kp_const, ?_⟩
  refine List.forall_mem_cons.mpr ⟨kp_bin (f := fun x y => x + y), ?_⟩
  refine List.forall_mem_cons.mpr ⟨kp_puti, ?_⟩
  refine List.forall_mem_cons.mpr ⟨kp_goto, ?_⟩
  refine List.forall_mem_cons.mpr ⟨kp_aload, ?_⟩
  refine List.forall_mem_cons.mpr ⟨kp_aload, ?_⟩
  refine List.forall_mem_cons.mpr ⟨kp_geti, ?_⟩
  refine List.forall_mem_cons.mpr ⟨kp_aload, ?_⟩
  refine List.forall_mem_cons.mpr ⟨kp_geti, ?_⟩
  refine List.forall_mem_cons.mpr ⟨kp_bin (f := fun x y => x - y), ?_⟩
  refine List.forall_mem_cons.mpr ⟨kp_const, ?_⟩
  refine List.forall_mem_cons.mpr ⟨kp_icmp, ?_⟩
  refine List.forall_mem_cons.mpr ⟨kp_const, ?_⟩
  refine List.forall_mem_cons.mpr ⟨kp_goto, ?_⟩
  refine List.forall_mem_cons.mpr ⟨kp_aload, ?_⟩
  refine List.forall_mem_cons.mpr ⟨kp_callv, ?_⟩
  refine List.forall_mem_cons.mpr ⟨kp_puti, ?_⟩
  refine List.forall_mem_cons.mpr ⟨kp_vret, ?_⟩
  exact List.forall_mem_nil _
theorem kqX8_scanInt : ∀ q ∈ tX8_scanInt, KP q.2 := by
  unfold tX8_scanInt
  refine List.forall_mem_cons.mpr ⟨kp_aload, ?_⟩
  refine List.forall_mem_cons.mpr ⟨kp_const, ?_⟩
  refine List.forall_mem_cons.mpr ⟨kp_puti, ?_⟩
  refine List.forall_mem_cons.mpr ⟨kp_aload, ?_⟩
  refine List.forall_mem_cons.mpr ⟨kp_aload, ?_⟩
  refine List.forall_mem_cons.mpr ⟨kp_geti, ?_⟩
  refine List.forall_mem_cons.mpr ⟨kp_puti, ?_⟩
  refine List.forall_mem_cons.mpr ⟨kp_aload, ?_⟩
  refine List.forall_mem_cons.mpr ⟨kp_geti, ?_⟩
  refine List.forall_mem_cons.mpr ⟨kp_aload, ?_⟩
  refine List.forall_mem_cons.mpr ⟨kp_geti, ?_⟩
  refine List.forall_mem_cons.mpr ⟨kp_icmp, ?_⟩
  refine List.forall_mem_cons.mpr ⟨kp_aload, ?_⟩
  refine List.forall_mem_cons.mpr ⟨kp_aload, ?_⟩
  refine List.forall_mem_cons.mpr ⟨kp_geti, ?_⟩
  refine List.forall_mem_cons.mpr ⟨kp_callv, ?_⟩
  refine List.forall_mem_cons.mpr ⟨kp_call, ?_⟩
  refine List.forall_mem_cons.mpr ⟨kp_if, ?_⟩
  refine List.forall_mem_cons.mpr ⟨kp_aload, ?_⟩
  refine List.forall_mem_cons.mpr ⟨kp_aload, ?_⟩
  refine List.forall_mem_cons.mpr ⟨kp_geti, ?_⟩
  refine List.forall_mem_cons.mpr ⟨kp_const, ?_⟩
  refine List.forall_mem_cons.mpr ⟨kp_bin (f := fun x y => x * y), ?_⟩
  refine List.forall_mem_cons.mpr ⟨kp_aload, ?_⟩
  refine List.forall_mem_cons.mpr ⟨kp_aload, ?_⟩
  refine List.forall_mem_cons.mpr ⟨kp_geti, ?_⟩
  refine List.forall_mem_cons.mpr ⟨kp_callv, ?_⟩
  refine List.forall_mem_cons.mpr ⟨kp_bin (f := fun x y => x + y), ?_⟩
  refine List.forall_mem_cons.mpr ⟨kp_const, ?_⟩
  refine List.forall_mem_cons.mpr ⟨kp_bin (f := fun x y => x - y), ?_⟩
  refine List.forall_mem_cons.mpr ⟨kp_puti, ?_⟩
  refine List.forall_mem_cons.mpr ⟨kp_aload, ?_⟩
  refine List.forall_mem_cons.mpr ⟨kp_dup, ?_⟩
  refine List.forall_mem_cons.mpr ⟨kp_geti, ?_⟩
  refine List.forall_mem_cons.mpr ⟨kp_const, ?_⟩
  refine List.forall_mem_cons.mpr ⟨kp_bin (f := fun x y => x + y), ?_⟩
  refine List.forall_mem_cons.mpr ⟨kp_puti, ?_⟩
  refine List.forall_mem_cons.mpr ⟨kp_goto, ?_⟩
  refine List.forall_mem_cons.mpr ⟨kp_aload, ?_⟩
  refine List.forall_mem_cons.mpr ⟨kp_aload, ?_⟩
  refine List.forall_mem_cons.mpr ⟨kp_geti, ?_⟩
  refine List.forall_mem_cons.mpr ⟨kp_aload, ?_⟩
  refine List.forall_mem_cons.mpr ⟨kp_geti, ?_⟩
  refine List.forall_mem_cons.mpr ⟨kp_bin (f := fun x y => x - y), ?_⟩
  refine List.forall_mem_cons.mpr ⟨kp_const, ?_⟩
  refine List.forall_mem_cons.mpr ⟨kp_icmp, ?_⟩
  refine List.forall_mem_cons.mpr ⟨kp_const, ?_⟩
  refine List.forall_mem_cons.mpr ⟨kp_goto, ?_⟩
  refine List.forall_mem_cons.mpr ⟨kp_const, ?_⟩
  refine List.forall_mem_cons.mpr ⟨kp_puti, ?_⟩
  refine List.forall_mem_cons.mpr ⟨kp_vret, ?_⟩
  exact List.forall_mem_nil _
theorem kqX8_scanSign : ∀ q ∈ tX8_scanSign, KP q.2 := by
  unfold tX8_scanSign
  refine List.forall_mem_cons.mpr ⟨kp_aload, ?_⟩
  refine List.forall_mem_cons.mpr ⟨kp_aload, ?_⟩
  refine List.forall_mem_cons.mpr ⟨kp_geti, ?_⟩
  refine List.forall_mem_cons.mpr ⟨kp_const, ?_⟩
  refine List.forall_mem_cons.mpr ⟨kp_bin (f := fun x y => x + y), ?_⟩
  refine List.forall_mem_cons.mpr ⟨kp_callv, ?_⟩
  refine List.forall_mem_cons.mpr ⟨kp_const, ?_⟩
  refine List.forall_mem_cons.mpr ⟨kp_icmp, ?_⟩
  refine List.forall_mem_cons.mpr ⟨kp_const, ?_⟩
  refine List.forall_mem_cons.mpr ⟨kp_goto, ?_⟩
  refine List.forall_mem_cons.mpr ⟨kp_const, ?_⟩
  refine List.forall_mem_cons.mpr ⟨kp_istore, ?_⟩
  refine List.forall_mem_cons.mpr ⟨kp_aload, ?_⟩
  refine List.forall_mem_cons.mpr ⟨kp_iload, ?_⟩
  refine List.forall_mem_cons.mpr ⟨kp_if, ?_⟩
  refine List.forall_mem_cons.mpr ⟨kp_iload, ?_⟩
  refine List.forall_mem_cons.mpr ⟨kp_call, ?_⟩
  refine List.forall_mem_cons.mpr ⟨kp_goto, ?_⟩
  refine List.forall_mem_cons.mpr ⟨kp_const, ?_⟩
  refine List.forall_mem_cons.mpr ⟨kp_puti, ?_⟩
  refine List.forall_mem_cons.mpr ⟨kp_aload, ?_⟩
  refine List.forall_mem_cons.mpr ⟨kp_aload, ?_⟩
  refine List.forall_mem_cons.mpr ⟨kp_geti, ?_⟩
  refine List.forall_mem_cons.mpr ⟨kp_const, ?_⟩
  refine List.forall_mem_cons.mpr ⟨kp_bin (f := fun x y => x + y), ?_⟩
  refine List.forall_mem_cons.mpr ⟨kp_puti, ?_⟩
  refine List.forall_mem_cons.mpr ⟨kp_aload, ?_⟩
  refine List.forall_mem_cons.mpr ⟨kp_geti, ?_⟩
  refine List.forall_mem_cons.mpr ⟨kp_if, ?_⟩
  refine List.forall_mem_cons.mpr ⟨kp_aload, ?_⟩
  refine List.forall_mem_cons.mpr ⟨kp_iload, ?_⟩
  refine List.forall_mem_cons.mpr ⟨kp_call, ?_⟩
  refine List.forall_mem_cons.mpr ⟨kp_puti, ?_⟩
  refine List.forall_mem_cons.mpr ⟨kp_aload, ?_⟩
  refine List.forall_mem_cons.mpr ⟨kp_aload, ?_⟩
  refine List.forall_mem_cons.mpr ⟨kp_geti, ?_⟩
  refine List.forall_mem_cons.mpr ⟨kp_const, ?_⟩
  refine List.forall_mem_cons.mpr ⟨kp_bin (f := fun x y => x + y), ?_⟩
  refine List.forall_mem_cons.mpr ⟨kp_puti, ?_⟩
  refine List.forall_mem_cons.mpr ⟨kp_vret, ?_⟩
  exact List.forall_mem_nil _
theorem kqX8_byteAt : ∀ q ∈ tX8_byteAt, KP q.2 := by
  unfold tX8_byteAt
  refine List.forall_mem_cons.mpr ⟨kp_iload, ?_⟩
  refine List.forall_mem_cons.mpr ⟨kp_if, ?_⟩
  refine List.forall_mem_cons.mpr ⟨kp_iload, ?_⟩
  refine List.forall_mem_cons.mpr ⟨kp_aload, ?_⟩
  refine List.forall_mem_cons.mpr ⟨kp_geti, ?_⟩
  refine List.forall_mem_cons.mpr ⟨kp_icmp, ?_⟩
  refine List.forall_mem_cons.mpr ⟨kp_iload, ?_⟩
  refine List.forall_mem_cons.mpr ⟨kp_aload, ?_⟩
  refine List.forall_mem_cons.mpr ⟨kp_getr, ?_⟩
  refine List.forall_mem_cons.mpr ⟨kp_alen, ?_⟩
  refine List.forall_mem_cons.mpr ⟨kp_icmp, ?_⟩
  refine List.forall_mem_cons.mpr ⟨kp_aload, ?_⟩
  refine List.forall_mem_cons.mpr ⟨kp_getr, ?_⟩
  refine List.forall_mem_cons.mpr ⟨kp_iload, ?_⟩
  refine List.forall_mem_cons.mpr ⟨kp_ald, ?_⟩
  refine List.forall_mem_cons.mpr ⟨kp_goto, ?_⟩
  refine List.forall_mem_cons.mpr ⟨kp_const, ?_⟩
  refine List.forall_mem_cons.mpr ⟨kp_iret, ?_⟩
  exact List.forall_mem_nil _
theorem kqX8_isBlank : ∀ q ∈ tX8_isBlank, KP q.2 := by
  unfold tX8_isBlank
  refine List.forall_mem_cons.mpr ⟨kp_iload, ?_⟩
  refine List.forall_mem_cons.mpr ⟨kp_const, ?_⟩
  refine List.forall_mem_cons.mpr ⟨kp_icmp, ?_⟩
  refine List.forall_mem_cons.mpr ⟨kp_iload, ?_⟩
  refine List.forall_mem_cons.mpr ⟨kp_const, ?_⟩
  refine List.forall_mem_cons.mpr ⟨kp_icmp, ?_⟩
  refine List.forall_mem_cons.mpr ⟨kp_iload, ?_⟩
  refine List.forall_mem_cons.mpr ⟨kp_const, ?_⟩
  refine List.forall_mem_cons.mpr ⟨kp_icmp, ?_⟩
  refine List.forall_mem_cons.mpr ⟨kp_iload, ?_⟩
  refine List.forall_mem_cons.mpr ⟨kp_const, ?_⟩
  refine List.forall_mem_cons.mpr ⟨kp_icmp, ?_⟩
  refine List.forall_mem_cons.mpr ⟨kp_const, ?_⟩
  refine List.forall_mem_cons.mpr ⟨kp_goto, ?_⟩
  refine List.forall_mem_cons.mpr ⟨kp_const, ?_⟩
  refine List.forall_mem_cons.mpr ⟨kp_zret, ?_⟩
  exact List.forall_mem_nil _
theorem kqX8_isLetter : ∀ q ∈ tX8_isLetter, KP q.2 := by
  unfold tX8_isLetter
  refine List.forall_mem_cons.mpr ⟨kp_iload, ?_⟩
  refine List.forall_mem_cons.mpr ⟨kp_const, ?_⟩
  refine List.forall_mem_cons.mpr ⟨kp_icmp, ?_⟩
  refine List.forall_mem_cons.mpr ⟨kp_iload, ?_⟩
  refine List.forall_mem_cons.mpr ⟨kp_const, ?_⟩
  refine List.forall_mem_cons.mpr ⟨kp_icmp, ?_⟩
  refine List.forall_mem_cons.mpr ⟨kp_const, ?_⟩
  refine List.forall_mem_cons.mpr ⟨kp_goto, ?_⟩
  refine List.forall_mem_cons.mpr ⟨kp_const, ?_⟩
  refine List.forall_mem_cons.mpr ⟨kp_zret, ?_⟩
  exact List.forall_mem_nil _
theorem kqX8_isDigit : ∀ q ∈ tX8_isDigit, KP q.2 := by
  unfold tX8_isDigit
  refine List.forall_mem_cons.mpr ⟨kp_iload, ?_⟩
  refine List.forall_mem_cons.mpr ⟨kp_const, ?_⟩
  refine List.forall_mem_cons.mpr ⟨kp_icmp, ?_⟩
  refine List.forall_mem_cons.mpr ⟨kp_iload, ?_⟩
  refine List.forall_mem_cons.mpr ⟨kp_const, ?_⟩
  refine List.forall_mem_cons.mpr ⟨kp_icmp, ?_⟩
  refine List.forall_mem_cons.mpr ⟨kp_const, ?_⟩
  refine List.forall_mem_cons.mpr ⟨kp_goto, ?_⟩
  refine List.forall_mem_cons.mpr ⟨kp_const, ?_⟩
  refine List.forall_mem_cons.mpr ⟨kp_zret, ?_⟩
  exact List.forall_mem_nil _
theorem kqX8_kindOfPair : ∀ q ∈ tX8_kindOfPair, KP q.2 := by
  unfold tX8_kindOfPair
  refine List.forall_mem_cons.mpr ⟨kp_iload, ?_⟩
  refine List.forall_mem_cons.mpr ⟨kp_sw, ?_⟩
  refine List.forall_mem_cons.mpr ⟨kp_const, ?_⟩
  refine List.forall_mem_cons.mpr ⟨kp_iret, ?_⟩
  refine List.forall_mem_cons.mpr ⟨kp_const, ?_⟩
  refine List.forall_mem_cons.mpr ⟨kp_iret, ?_⟩
  refine List.forall_mem_cons.mpr ⟨kp_const, ?_⟩
  refine List.forall_mem_cons.mpr ⟨kp_iret, ?_⟩
  refine List.forall_mem_cons.mpr ⟨kp_const, ?_⟩
  refine List.forall_mem_cons.mpr ⟨kp_iret, ?_⟩
  exact List.forall_mem_nil _
theorem kqX8_kindOfSign : ∀ q ∈ tX8_kindOfSign, KP q.2 := by
  unfold tX8_kindOfSign
  refine List.forall_mem_cons.mpr ⟨kp_iload, ?_⟩
  refine List.forall_mem_cons.mpr ⟨kp_sw, ?_⟩
  refine List.forall_mem_cons.mpr ⟨kp_const, ?_⟩
  refine List.forall_mem_cons.mpr ⟨kp_iret, ?_⟩
  refine List.forall_mem_cons.mpr ⟨kp_const, ?_⟩
  refine List.forall_mem_cons.mpr ⟨kp_iret, ?_⟩
  refine List.forall_mem_cons.mpr ⟨kp_const, ?_⟩
  refine List.forall_mem_cons.mpr ⟨kp_iret, ?_⟩
  refine List.forall_mem_cons.mpr ⟨kp_const, ?_⟩
  refine List.forall_mem_cons.mpr ⟨kp_iret, ?_⟩
  refine List.forall_mem_cons.mpr ⟨kp_const, ?_⟩
  refine List.forall_mem_cons.mpr ⟨kp_iret, ?_⟩
  refine List.forall_mem_cons.mpr ⟨kp_const, ?_⟩
  refine List.forall_mem_cons.mpr ⟨kp_iret, ?_⟩
  refine List.forall_mem_cons.mpr ⟨kp_const, ?_⟩
  refine List.forall_mem_cons.mpr ⟨kp_iret, ?_⟩
  refine List.forall_mem_cons.mpr ⟨kp_const, ?_⟩
  refine List.forall_mem_cons.mpr ⟨kp_iret, ?_⟩
  exact List.forall_mem_nil _
theorem kqX8_kindOfWord : ∀ q ∈ tX8_kindOfWord, KP q.2 := by
  unfold tX8_kindOfWord
  refine List.forall_mem_cons.mpr ⟨kp_kow, ?_⟩
  exact List.forall_mem_nil _
theorem kqX9_init : ∀ q ∈ tX9_init, KP q.2 := by
  unfold tX9_init
  refine List.forall_mem_cons.mpr ⟨kp_aload, ?_⟩
  refine List.forall_mem_cons.mpr ⟨kp_objinit, ?_⟩
  refine List.forall_mem_cons.mpr ⟨kp_aload, ?_⟩
  refine List.forall_mem_cons.mpr ⟨kp_const, ?_⟩
  refine List.forall_mem_cons.mpr ⟨kp_puti, ?_⟩
  refine List.forall_mem_cons.mpr ⟨kp_aload, ?_⟩
  refine List.forall_mem_cons.mpr ⟨kp_const, ?_⟩
  refine List.forall_mem_cons.mpr ⟨kp_puti, ?_⟩
  refine List.forall_mem_cons.mpr ⟨kp_aload, ?_⟩
  refine List.forall_mem_cons.mpr ⟨kp_const, ?_⟩
  refine List.forall_mem_cons.mpr ⟨kp_puti, ?_⟩
  refine List.forall_mem_cons.mpr ⟨kp_aload, ?_⟩
  refine List.forall_mem_cons.mpr ⟨kp_const, ?_⟩
  refine List.forall_mem_cons.mpr ⟨kp_puti, ?_⟩
  refine List.forall_mem_cons.mpr ⟨kp_aload, ?_⟩
  refine List.forall_mem_cons.mpr ⟨kp_const, ?_⟩
  refine List.forall_mem_cons.mpr ⟨kp_puti, ?_⟩
  refine List.forall_mem_cons.mpr ⟨kp_aload, ?_⟩
  refine List.forall_mem_cons.mpr ⟨kp_const, ?_⟩
  refine List.forall_mem_cons.mpr ⟨kp_puti, ?_⟩
  refine List.forall_mem_cons.mpr ⟨kp_aload, ?_⟩
  refine List.forall_mem_cons.mpr ⟨kp_const, ?_⟩
  refine List.forall_mem_cons.mpr ⟨kp_putz, ?_⟩
  refine List.forall_mem_cons.mpr ⟨kp_aload, ?_⟩
  refine List.forall_mem_cons.mpr ⟨kp_const, ?_⟩
  refine List.forall_mem_cons.mpr ⟨kp_puti, ?_⟩
  refine List.forall_mem_cons.mpr ⟨kp_aload, ?_⟩
  refine List.forall_mem_cons.mpr ⟨kp_const, ?_⟩
  refine List.forall_mem_cons.mpr ⟨kp_puti, ?_⟩
  refine List.forall_mem_cons.mpr ⟨kp_aload, ?_⟩
  refine List.forall_mem_cons.mpr ⟨kp_const, ?_⟩
  refine List.forall_mem_cons.mpr ⟨kp_newa, ?_⟩
  refine List.forall_mem_cons.mpr ⟨kp_putr, ?_⟩
  refine List.forall_mem_cons.mpr ⟨kp_vret, ?_⟩
  exact List.forall_mem_nil _
theorem kqX9_compile : ∀ q ∈ tX9_compile, KP q.2 := by
  unfold tX9_compile
  refine List.forall_mem_cons.mpr ⟨kp_aload, ?_⟩
  refine List.forall_mem_cons.mpr ⟨kp_callv, ?_⟩
  refine List.forall_mem_cons.mpr ⟨kp_aload, ?_⟩
  refine List.forall_mem_cons.mpr ⟨kp_callv, ?_⟩
  refine List.forall_mem_cons.mpr ⟨kp_aload, ?_⟩
  refine List.forall_mem_cons.mpr ⟨kp_callv, ?_⟩
  refine List.forall_mem_cons.mpr ⟨kp_const, ?_⟩
  refine List.forall_mem_cons.mpr ⟨kp_istore, ?_⟩
  refine List.forall_mem_cons.mpr ⟨kp_iload, ?_⟩
  refine List.forall_mem_cons.mpr ⟨kp_const, ?_⟩
  refine List.forall_mem_cons.mpr ⟨kp_icmp, ?_⟩
  refine List.forall_mem_cons.mpr ⟨kp_aload, ?_⟩
  refine List.forall_mem_cons.mpr ⟨kp_geti, ?_⟩
  refine List.forall_mem_cons.mpr ⟨kp_if, ?_⟩
  refine List.forall_mem_cons.mpr ⟨kp_aload, ?_⟩
  refine List.forall_mem_cons.mpr ⟨kp_callv, ?_⟩
  refine List.forall_mem_cons.mpr ⟨kp_if, ?_⟩
  refine List.forall_mem_cons.mpr ⟨kp_aload, ?_⟩
  refine List.forall_mem_cons.mpr ⟨kp_aload, ?_⟩
  refine List.forall_mem_cons.mpr ⟨kp_aload, ?_⟩
  refine List.forall_mem_cons.mpr ⟨kp_callv, ?_⟩
  refine List.forall_mem_cons.mpr ⟨kp_iinc, ?_⟩
  refine List.forall_mem_cons.mpr ⟨kp_goto, ?_⟩
  refine List.forall_mem_cons.mpr ⟨kp_aload, ?_⟩
  refine List.forall_mem_cons.mpr ⟨kp_geti, ?_⟩
  refine List.forall_mem_cons.mpr ⟨kp_if, ?_⟩
  refine List.forall_mem_cons.mpr ⟨kp_aload, ?_⟩
  refine List.forall_mem_cons.mpr ⟨kp_geti, ?_⟩
  refine List.forall_mem_cons.mpr ⟨kp_if, ?_⟩
  refine List.forall_mem_cons.mpr ⟨kp_aload, ?_⟩
  refine List.forall_mem_cons.mpr ⟨kp_const, ?_⟩
  refine List.forall_mem_cons.mpr ⟨kp_aload, ?_⟩
  refine List.forall_mem_cons.mpr ⟨kp_geti, ?_⟩
  refine List.forall_mem_cons.mpr ⟨kp_callv, ?_⟩
  refine List.forall_mem_cons.mpr ⟨kp_aload, ?_⟩
  refine List.forall_mem_cons.mpr ⟨kp_geti, ?_⟩
  refine List.forall_mem_cons.mpr ⟨kp_if, ?_⟩
  refine List.forall_mem_cons.mpr ⟨kp_aload, ?_⟩
  refine List.forall_mem_cons.mpr ⟨kp_geti, ?_⟩
  refine List.forall_mem_cons.mpr ⟨kp_const, ?_⟩
  refine List.forall_mem_cons.mpr ⟨kp_icmp, ?_⟩
  refine List.forall_mem_cons.mpr ⟨kp_aload, ?_⟩
  refine List.forall_mem_cons.mpr ⟨kp_const, ?_⟩
  refine List.forall_mem_cons.mpr ⟨kp_aload, ?_⟩
  refine List.forall_mem_cons.mpr ⟨kp_geti, ?_⟩
  refine List.forall_mem_cons.mpr ⟨kp_callv, ?_⟩
  refine List.forall_mem_cons.mpr ⟨kp_vret, ?_⟩
  exact List.forall_mem_nil _
theorem kqX9_startOver : ∀ q ∈ tX9_startOver, KP q.2 := by
  unfold tX9_startOver
  refine List.forall_mem_cons.mpr ⟨kp_aload, ?_⟩
  refine List.forall_mem_cons.mpr ⟨kp_const, ?_⟩
  refine List.forall_mem_cons.mpr ⟨kp_puti, ?_⟩
  refine List.forall_mem_cons.mpr ⟨kp_aload, ?_⟩
  refine List.forall_mem_cons.mpr ⟨kp_const, ?_⟩
  refine List.forall_mem_cons.mpr ⟨kp_puti, ?_⟩
  refine List.forall_mem_cons.mpr ⟨kp_aload, ?_⟩
  refine List.forall_mem_cons.mpr ⟨kp_const, ?_⟩
  refine List.forall_mem_cons.mpr ⟨kp_puti, ?_⟩
  refine List.forall_mem_cons.mpr ⟨kp_aload, ?_⟩
  refine List.forall_mem_cons.mpr ⟨kp_const, ?_⟩
  refine List.forall_mem_cons.mpr ⟨kp_puti, ?_⟩
  refine List.forall_mem_cons.mpr ⟨kp_aload, ?_⟩
  refine List.forall_mem_cons.mpr ⟨kp_const, ?_⟩
  refine List.forall_mem_cons.mpr ⟨kp_puti, ?_⟩
  refine List.forall_mem_cons.mpr ⟨kp_aload, ?_⟩
  refine List.forall_mem_cons.mpr ⟨kp_const, ?_⟩
  refine List.forall_mem_cons.mpr ⟨kp_puti, ?_⟩
  refine List.forall_mem_cons.mpr ⟨kp_aload, ?_⟩
  refine List.forall_mem_cons.mpr ⟨kp_const, ?_⟩
  refine List.forall_mem_cons.mpr ⟨kp_putz, ?_⟩
  refine List.forall_mem_cons.mpr ⟨kp_aload, ?_⟩
  refine List.forall_mem_cons.mpr ⟨kp_const, ?_⟩
  refine List.forall_mem_cons.mpr ⟨kp_puti, ?_⟩
  refine List.forall_mem_cons.mpr ⟨kp_vret, ?_⟩
  exact List.forall_mem_nil _
theorem kqX9_fail : ∀ q ∈ tX9_fail, KP q.2 := by
  unfold tX9_fail
  refine List.forall_mem_cons.mpr ⟨kp_aload, ?_⟩
  refine List.forall_mem_cons.mpr ⟨kp_iload, ?_⟩
  refine List.forall_mem_cons.mpr ⟨kp_puti, ?_⟩
  refine List.forall_mem_cons.mpr ⟨kp_aload, ?_⟩
  refine List.forall_mem_cons.mpr ⟨kp_iload, ?_⟩
  refine List.forall_mem_cons.mpr ⟨kp_puti, ?_⟩
  refine List.forall_mem_cons.mpr ⟨kp_vret, ?_⟩
  exact List.forall_mem_nil _
theorem kqX9_accept : ∀ q ∈ tX9_accept, KP q.2 := by
  unfold tX9_accept
  refine List.forall_mem_cons.mpr ⟨kp_aload, ?_⟩
  refine List.forall_mem_cons.mpr ⟨kp_aload, ?_⟩
  refine List.forall_mem_cons.mpr ⟨kp_geti, ?_⟩
  refine List.forall_mem_cons.mpr ⟨kp_callv, ?_⟩
  refine List.forall_mem_cons.mpr ⟨kp_if, ?_⟩
  refine List.forall_mem_cons.mpr ⟨kp_aload, ?_⟩
  refine List.forall_mem_cons.mpr ⟨kp_const, ?_⟩
  refine List.forall_mem_cons.mpr ⟨kp_aload, ?_⟩
  refine List.forall_mem_cons.mpr ⟨kp_geti, ?_⟩
  refine List.forall_mem_cons.mpr ⟨kp_callv, ?_⟩
  refine List.forall_mem_cons.mpr ⟨kp_goto, ?_⟩
  refine List.forall_mem_cons.mpr ⟨kp_aload, ?_⟩
  refine List.forall_mem_cons.mpr ⟨kp_aload, ?_⟩
  refine List.forall_mem_cons.mpr ⟨kp_geti, ?_⟩
  refine List.forall_mem_cons.mpr ⟨kp_aload, ?_⟩
  refine List.forall_mem_cons.mpr ⟨kp_callv, ?_⟩
  refine List.forall_mem_cons.mpr ⟨kp_if, ?_⟩
  refine List.forall_mem_cons.mpr ⟨kp_aload, ?_⟩
  refine List.forall_mem_cons.mpr ⟨kp_const, ?_⟩
  refine List.forall_mem_cons.mpr ⟨kp_aload, ?_⟩
  refine List.forall_mem_cons.mpr ⟨kp_geti, ?_⟩
  refine List.forall_mem_cons.mpr ⟨kp_callv, ?_⟩
  refine List.forall_mem_cons.mpr ⟨kp_goto, ?_⟩
  refine List.forall_mem_cons.mpr ⟨kp_aload, ?_⟩
  refine List.forall_mem_cons.mpr ⟨kp_dup, ?_⟩
  refine List.forall_mem_cons.mpr ⟨kp_geti, ?_⟩
  refine List.forall_mem_cons.mpr ⟨kp_const, ?_⟩
  refine List.forall_mem_cons.mpr ⟨kp_bin (f := fun x y => x + y), ?_⟩
  refine List.forall_mem_cons.mpr ⟨kp_puti, ?_⟩
  refine List.forall_mem_cons.mpr ⟨kp_aload, ?_⟩
  refine List.forall_mem_cons.mpr ⟨kp_aload, ?_⟩
  refine List.forall_mem_cons.mpr ⟨kp_aload, ?_⟩
  refine List.forall_mem_cons.mpr ⟨kp_callv, ?_⟩
  refine List.forall_mem_cons.mpr ⟨kp_vret, ?_⟩
  exact List.forall_mem_nil _
theorem kqX9_goesOnWith : ∀ q ∈ tX9_goesOnWith, KP q.2 := by
  unfold tX9_goesOnWith
  refine List.forall_mem_cons.mpr ⟨kp_aload, ?_⟩
  refine List.forall_mem_cons.mpr ⟨kp_geti, ?_⟩
  refine List.forall_mem_cons.mpr ⟨kp_sw, ?_⟩
  refine List.forall_mem_cons.mpr ⟨kp_iload, ?_⟩
  refine List.forall_mem_cons.mpr ⟨kp_const, ?_⟩
  refine List.forall_mem_cons.mpr ⟨kp_icmp, ?_⟩
  refine List.forall_mem_cons.mpr ⟨kp_iload, ?_⟩
  refine List.forall_mem_cons.mpr ⟨kp_const, ?_⟩
  refine List.forall_mem_cons.mpr ⟨kp_icmp, ?_⟩
  refine List.forall_mem_cons.mpr ⟨kp_const, ?_⟩
  refine List.forall_mem_cons.mpr ⟨kp_goto, ?_⟩
  refine List.forall_mem_cons.mpr ⟨kp_const, ?_⟩
  refine List.forall_mem_cons.mpr ⟨kp_zret, ?_⟩
  refine List.forall_mem_cons.mpr ⟨kp_iload, ?_⟩
  refine List.forall_mem_cons.mpr ⟨kp_const, ?_⟩
  refine List.forall_mem_cons.mpr ⟨kp_icmp, ?_⟩
  refine List.forall_mem_cons.mpr ⟨kp_const, ?_⟩
  refine List.forall_mem_cons.mpr ⟨kp_goto, ?_⟩
  refine List.forall_mem_cons.mpr ⟨kp_const, ?_⟩
  refine List.forall_mem_cons.mpr ⟨kp_zret, ?_⟩
  refine List.forall_mem_cons.mpr ⟨kp_iload, ?_⟩
  refine List.forall_mem_cons.mpr ⟨kp_const, ?_⟩
  refine List.forall_mem_cons.mpr ⟨kp_icmp, ?_⟩
  refine List.forall_mem_cons.mpr ⟨kp_const, ?_⟩
  refine List.forall_mem_cons.mpr ⟨kp_goto, ?_⟩
  refine List.forall_mem_cons.mpr ⟨kp_const, ?_⟩
  refine List.forall_mem_cons.mpr ⟨kp_zret, ?_⟩
  refine List.forall_mem_cons.mpr ⟨kp_iload, ?_⟩
  refine List.forall_mem_cons.mpr ⟨kp_const, ?_⟩
  refine List.forall_mem_cons.mpr ⟨kp_icmp, ?_⟩
  refine List.forall_mem_cons.mpr ⟨kp_iload, ?_⟩
  refine List.forall_mem_cons.mpr ⟨kp_const, ?_⟩
  refine List.forall_mem_cons.mpr ⟨kp_icmp, ?_⟩
  refine List.forall_mem_cons.mpr ⟨kp_iload, ?_⟩
  refine List.forall_mem_cons.mpr ⟨kp_call, ?_⟩
  refine List.forall_mem_cons.mpr ⟨kp_if, ?_⟩
  refine List.forall_mem_cons.mpr ⟨kp_const, ?_⟩
  refine List.forall_mem_cons.mpr ⟨kp_goto, ?_⟩
  refine List.forall_mem_cons.mpr ⟨kp_const, ?_⟩
  refine List.forall_mem_cons.mpr ⟨kp_zret, ?_⟩
  refine List.forall_mem_cons.mpr ⟨kp_iload, ?_⟩
  refine List.forall_mem_cons.mpr ⟨kp_call, ?_⟩
  refine List.forall_mem_cons.mpr ⟨kp_zret, ?_⟩
  refine List.forall_mem_cons.mpr ⟨kp_iload, ?_⟩
  refine List.forall_mem_cons.mpr ⟨kp_call, ?_⟩
  refine List.forall_mem_cons.mpr ⟨kp_zret, ?_⟩
  refine List.forall_mem_cons.mpr ⟨kp_aload, ?_⟩
  refine List.forall_mem_cons.mpr ⟨kp_iload, ?_⟩
  refine List.forall_mem_cons.mpr ⟨kp_callv, ?_⟩
  refine List.forall_mem_cons.mpr ⟨kp_zret, ?_⟩
  exact List.forall_mem_nil _
theorem kqX9_beginsOperand : ∀ q ∈ tX9_beginsOperand, KP q.2 := by
  unfold tX9_beginsOperand
  refine List.forall_mem_cons.mpr ⟨kp_iload, ?_⟩
  refine List.forall_mem_cons.mpr ⟨kp_const, ?_⟩
  refine List.forall_mem_cons.mpr ⟨kp_icmp, ?_⟩
  refine List.forall_mem_cons.mpr ⟨kp_iload, ?_⟩
  refine List.forall_mem_cons.mpr ⟨kp_const, ?_⟩
  refine List.forall_mem_cons.mpr ⟨kp_icmp, ?_⟩
  refine List.forall_mem_cons.mpr ⟨kp_iload, ?_⟩
  refine List.forall_mem_cons.mpr ⟨kp_const, ?_⟩
  refine List.forall_mem_cons.mpr ⟨kp_icmp, ?_⟩
  refine List.forall_mem_cons.mpr ⟨kp_iload, ?_⟩
  refine List.forall_mem_cons.mpr ⟨kp_const, ?_⟩
  refine List.forall_mem_cons.mpr ⟨kp_icmp, ?_⟩
  refine List.forall_mem_cons.mpr ⟨kp_const, ?_⟩
  refine List.forall_mem_cons.mpr ⟨kp_goto, ?_⟩
  refine List.forall_mem_cons.mpr ⟨kp_const, ?_⟩
  refine List.forall_mem_cons.mpr ⟨kp_zret, ?_⟩
  exact List.forall_mem_nil _
theorem kqX9_followsLiteral : ∀ q ∈ tX9_followsLiteral, KP q.2 := by
  unfold tX9_followsLiteral
  refine List.forall_mem_cons.mpr ⟨kp_iload, ?_⟩
  refine List.forall_mem_cons.mpr ⟨kp_const, ?_⟩
  refine List.forall_mem_cons.mpr ⟨kp_icmp, ?_⟩
  refine List.forall_mem_cons.mpr ⟨kp_iload, ?_⟩
  refine List.forall_mem_cons.mpr ⟨kp_const, ?_⟩
  refine List.forall_mem_cons.mpr ⟨kp_icmp, ?_⟩
  refine List.forall_mem_cons.mpr ⟨kp_iload, ?_⟩
  refine List.forall_mem_cons.mpr ⟨kp_const, ?_⟩
  refine List.forall_mem_cons.mpr ⟨kp_icmp, ?_⟩
  refine List.forall_mem_cons.mpr ⟨kp_const, ?_⟩
  refine List.forall_mem_cons.mpr ⟨kp_goto, ?_⟩
  refine List.forall_mem_cons.mpr ⟨kp_const, ?_⟩
  refine List.forall_mem_cons.mpr ⟨kp_zret, ?_⟩
  exact List.forall_mem_nil _
theorem kqX9_followsOperand : ∀ q ∈ tX9_followsOperand, KP q.2 := by
  unfold tX9_followsOperand
  refine List.forall_mem_cons.mpr ⟨kp_iload, ?_⟩
  refine List.forall_mem_cons.mpr ⟨kp_call, ?_⟩
  refine List.forall_mem_cons.mpr ⟨kp_if, ?_⟩
  refine List.forall_mem_cons.mpr ⟨kp_const, ?_⟩
  refine List.forall_mem_cons.mpr ⟨kp_zret, ?_⟩
  refine List.forall_mem_cons.mpr ⟨kp_aload, ?_⟩
  refine List.forall_mem_cons.mpr ⟨kp_geti, ?_⟩
  refine List.forall_mem_cons.mpr ⟨kp_if, ?_⟩
  refine List.forall_mem_cons.mpr ⟨kp_iload, ?_⟩
  refine List.forall_mem_cons.mpr ⟨kp_const, ?_⟩
  refine List.forall_mem_cons.mpr ⟨kp_icmp, ?_⟩
  refine List.forall_mem_cons.mpr ⟨kp_const, ?_⟩
  refine List.forall_mem_cons.mpr ⟨kp_goto, ?_⟩
  refine List.forall_mem_cons.mpr ⟨kp_const, ?_⟩
  refine List.forall_mem_cons.mpr ⟨kp_zret, ?_⟩
  refine List.forall_mem_cons.mpr ⟨kp_aload, ?_⟩
  refine List.forall_mem_cons.mpr ⟨kp_geti, ?_⟩
  refine List.forall_mem_cons.mpr ⟨kp_if, ?_⟩
  refine List.forall_mem_cons.mpr ⟨kp_iload, ?_⟩
  refine List.forall_mem_cons.mpr ⟨kp_call, ?_⟩
  refine List.forall_mem_cons.mpr ⟨kp_goto, ?_⟩
  refine List.forall_mem_cons.mpr ⟨kp_iload, ?_⟩
  refine List.forall_mem_cons.mpr ⟨kp_call, ?_⟩
  refine List.forall_mem_cons.mpr ⟨kp_zret, ?_⟩
  exact List.forall_mem_nil _
theorem kqX9_isArithmetic : ∀ q ∈ tX9_isArithmetic, KP q.2 := by
  unfold tX9_isArithmetic
  refine List.forall_mem_cons.mpr ⟨kp_iload, ?_⟩
  refine List.forall_mem_cons.mpr ⟨kp_const, ?_⟩
  refine List.forall_mem_cons.mpr ⟨kp_icmp, ?_⟩
  refine List.forall_mem_cons.mpr ⟨kp_iload, ?_⟩
  refine List.forall_mem_cons.mpr ⟨kp_const, ?_⟩
  refine List.forall_mem_cons.mpr ⟨kp_icmp, ?_⟩
  refine List.forall_mem_cons.mpr ⟨kp_const, ?_⟩
  refine List.forall_mem_cons.mpr ⟨kp_goto, ?_⟩
  refine List.forall_mem_cons.mpr ⟨kp_const, ?_⟩
  refine List.forall_mem_cons.mpr ⟨kp_zret, ?_⟩
  exact List.forall_mem_nil _
theorem kqX9_isComparison : ∀ q ∈ tX9_isComparison, KP q.2 := by
  unfold tX9_isComparison
  refine List.forall_mem_cons.mpr ⟨kp_iload, ?_⟩
  refine List.forall_mem_cons.mpr ⟨kp_const, ?_⟩
  refine List.forall_mem_cons.mpr ⟨kp_icmp, ?_⟩
  refine List.forall_mem_cons.mpr ⟨kp_iload, ?_⟩
  refine List.forall_mem_cons.mpr ⟨kp_const, ?_⟩
  refine List.forall_mem_cons.mpr ⟨kp_icmp, ?_⟩
  refine List.forall_mem_cons.mpr ⟨kp_const, ?_⟩
  refine List.forall_mem_cons.mpr ⟨kp_goto, ?_⟩
  refine List.forall_mem_cons.mpr ⟨kp_const, ?_⟩
  refine List.forall_mem_cons.mpr ⟨kp_zret, ?_⟩
  exact List.forall_mem_nil _
theorem kqX9_isTooMuch : ∀ q ∈ tX9_isTooMuch, KP q.2 := by
  unfold tX9_isTooMuch
  refine List.forall_mem_cons.mpr ⟨kp_aload, ?_⟩
  refine List.forall_mem_cons.mpr ⟨kp_geti, ?_⟩
  refine List.forall_mem_cons.mpr ⟨kp_const, ?_⟩
  refine List.forall_mem_cons.mpr ⟨kp_icmp, ?_⟩
  refine List.forall_mem_cons.mpr ⟨kp_aload, ?_⟩
  refine List.forall_mem_cons.mpr ⟨kp_geti, ?_⟩
  refine List.forall_mem_cons.mpr ⟨kp_if, ?_⟩
  refine List.forall_mem_cons.mpr ⟨kp_aload, ?_⟩
  refine List.forall_mem_cons.mpr ⟨kp_geti, ?_⟩
  refine List.forall_mem_cons.mpr ⟨kp_const, ?_⟩
  refine List.forall_mem_cons.mpr ⟨kp_icmp, ?_⟩
  refine List.forall_mem_cons.mpr ⟨kp_iload, ?_⟩
  refine List.forall_mem_cons.mpr ⟨kp_const, ?_⟩
  refine List.forall_mem_cons.mpr ⟨kp_icmp, ?_⟩
  refine List.forall_mem_cons.mpr ⟨kp_aload, ?_⟩
  refine List.forall_mem_cons.mpr ⟨kp_geti, ?_⟩
  refine List.forall_mem_cons.mpr ⟨kp_const, ?_⟩
  refine List.forall_mem_cons.mpr ⟨kp_icmp, ?_⟩
  refine List.forall_mem_cons.mpr ⟨kp_const, ?_⟩
  refine List.forall_mem_cons.mpr ⟨kp_goto, ?_⟩
  refine List.forall_mem_cons.mpr ⟨kp_const, ?_⟩
  refine List.forall_mem_cons.mpr ⟨kp_zret, ?_⟩
  exact List.forall_mem_nil _
theorem kqX9_take : ∀ q ∈ tX9_take, KP q.2 := by
  unfold tX9_take
  refine List.forall_mem_cons.mpr ⟨kp_aload, ?_⟩
  refine List.forall_mem_cons.mpr ⟨kp_geti, ?_⟩
  refine List.forall_mem_cons.mpr ⟨kp_sw, ?_⟩
  refine List.forall_mem_cons.mpr ⟨kp_aload, ?_⟩
  refine List.forall_mem_cons.mpr ⟨kp_const, ?_⟩
  refine List.forall_mem_cons.mpr ⟨kp_puti, ?_⟩
  refine List.forall_mem_cons.mpr ⟨kp_aload, ?_⟩
  refine List.forall_mem_cons.mpr ⟨kp_aload, ?_⟩
  refine List.forall_mem_cons.mpr ⟨kp_geti, ?_⟩
  refine List.forall_mem_cons.mpr ⟨kp_const, ?_⟩
  refine List.forall_mem_cons.mpr ⟨kp_icmp, ?_⟩
  refine List.forall_mem_cons.mpr ⟨kp_const, ?_⟩
  refine List.forall_mem_cons.mpr ⟨kp_goto, ?_⟩
  refine List.forall_mem_cons.mpr ⟨kp_const, ?_⟩
  refine List.forall_mem_cons.mpr ⟨kp_puti, ?_⟩
  refine List.forall_mem_cons.mpr ⟨kp_goto, ?_⟩
  refine List.forall_mem_cons.mpr ⟨kp_aload, ?_⟩
  refine List.forall_mem_cons.mpr ⟨kp_aload, ?_⟩
  refine List.forall_mem_cons.mpr ⟨kp_callv, ?_⟩
  refine List.forall_mem_cons.mpr ⟨kp_goto, ?_⟩
  refine List.forall_mem_cons.mpr ⟨kp_aload, ?_⟩
  refine List.forall_mem_cons.mpr ⟨kp_const, ?_⟩
  refine List.forall_mem_cons.mpr ⟨kp_puti, ?_⟩
  refine List.forall_mem_cons.mpr ⟨kp_goto, ?_⟩
  refine List.forall_mem_cons.mpr ⟨kp_aload, ?_⟩
  refine List.forall_mem_cons.mpr ⟨kp_aload, ?_⟩
  refine List.forall_mem_cons.mpr ⟨kp_aload, ?_⟩
  refine List.forall_mem_cons.mpr ⟨kp_callv, ?_⟩
  refine List.forall_mem_cons.mpr ⟨kp_goto, ?_⟩
  refine List.forall_mem_cons.mpr ⟨kp_aload, ?_⟩
  refine List.forall_mem_cons.mpr ⟨kp_aload, ?_⟩
  refine List.forall_mem_cons.mpr ⟨kp_geti, ?_⟩
  refine List.forall_mem_cons.mpr ⟨kp_aload, ?_⟩
  refine List.forall_mem_cons.mpr ⟨kp_callv, ?_⟩
  refine List.forall_mem_cons.mpr ⟨kp_vret, ?_⟩
  exact List.forall_mem_nil _
theorem kqX9_takeAmount : ∀ q ∈ tX9_takeAmount, KP q.2 := by
  unfold tX9_takeAmount
  refine List.forall_mem_cons.mpr ⟨kp_aload, ?_⟩
  refine List.forall_mem_cons.mpr ⟨kp_aload, ?_⟩
  refine List.forall_mem_cons.mpr ⟨kp_geti, ?_⟩
  refine List.forall_mem_cons.mpr ⟨kp_puti, ?_⟩
  refine List.forall_mem_cons.mpr ⟨kp_aload, ?_⟩
  refine List.forall_mem_cons.mpr ⟨kp_geti, ?_⟩
  refine List.forall_mem_cons.mpr ⟨kp_const, ?_⟩
  refine List.forall_mem_cons.mpr ⟨kp_icmp, ?_⟩
  refine List.forall_mem_cons.mpr ⟨kp_aload, ?_⟩
  refine List.forall_mem_cons.mpr ⟨kp_geti, ?_⟩
  refine List.forall_mem_cons.mpr ⟨kp_const, ?_⟩
  refine List.forall_mem_cons.mpr ⟨kp_icmp, ?_⟩
  refine List.forall_mem_cons.mpr ⟨kp_aload, ?_⟩
  refine List.forall_mem_cons.mpr ⟨kp_geti, ?_⟩
  refine List.forall_mem_cons.mpr ⟨kp_const, ?_⟩
  refine List.forall_mem_cons.mpr ⟨kp_icmp, ?_⟩
  refine List.forall_mem_cons.mpr ⟨kp_aload, ?_⟩
  refine List.forall_mem_cons.mpr ⟨kp_aload, ?_⟩
  refine List.forall_mem_cons.mpr ⟨kp_geti, ?_⟩
  refine List.forall_mem_cons.mpr ⟨kp_puti, ?_⟩
  refine List.forall_mem_cons.mpr ⟨kp_aload, ?_⟩
  refine List.forall_mem_cons.mpr ⟨kp_const, ?_⟩
  refine List.forall_mem_cons.mpr ⟨kp_puti, ?_⟩
  refine List.forall_mem_cons.mpr ⟨kp_vret, ?_⟩
  exact List.forall_mem_nil _
theorem kqX9_takeOperand : ∀ q ∈ tX9_takeOperand, KP q.2 := by
  unfold tX9_takeOperand
  refine List.forall_mem_cons.mpr ⟨kp_aload, ?_⟩
  refine List.forall_mem_cons.mpr ⟨kp_geti, ?_⟩
  refine List.forall_mem_cons.mpr ⟨kp_const, ?_⟩
  refine List.forall_mem_cons.mpr ⟨kp_icmp, ?_⟩
  refine List.forall_mem_cons.mpr ⟨kp_aload, ?_⟩
  refine List.forall_mem_cons.mpr ⟨kp_const, ?_⟩
  refine List.forall_mem_cons.mpr ⟨kp_callv, ?_⟩
  refine List.forall_mem_cons.mpr ⟨kp_aload, ?_⟩
  refine List.forall_mem_cons.mpr ⟨kp_dup, ?_⟩
  refine List.forall_mem_cons.mpr ⟨kp_geti, ?_⟩
  refine List.forall_mem_cons.mpr ⟨kp_const, ?_⟩
  refine List.forall_mem_cons.mpr ⟨kp_bin (f := fun x y => x + y), ?_⟩
  refine List.forall_mem_cons.mpr ⟨kp_puti, ?_⟩
  refine List.forall_mem_cons.mpr ⟨kp_aload, ?_⟩
  refine List.forall_mem_cons.mpr ⟨kp_const, ?_⟩
  refine List.forall_mem_cons.mpr ⟨kp_puti, ?_⟩
  refine List.forall_mem_cons.mpr ⟨kp_vret, ?_⟩
  refine List.forall_mem_cons.mpr ⟨kp_aload, ?_⟩
  refine List.forall_mem_cons.mpr ⟨kp_aload, ?_⟩
  refine List.forall_mem_cons.mpr ⟨kp_geti, ?_⟩
  refine List.forall_mem_cons.mpr ⟨kp_const, ?_⟩
  refine List.forall_mem_cons.mpr ⟨kp_icmp, ?_⟩
  refine List.forall_mem_cons.mpr ⟨kp_aload, ?_⟩
  refine List.forall_mem_cons.mpr ⟨kp_geti, ?_⟩
  refine List.forall_mem_cons.mpr ⟨kp_goto, ?_⟩
  refine List.forall_mem_cons.mpr ⟨kp_aload, ?_⟩
  refine List.forall_mem_cons.mpr ⟨kp_geti, ?_⟩
  refine List.forall_mem_cons.mpr ⟨kp_un, ?_⟩
  refine List.forall_mem_cons.mpr ⟨kp_callv, ?_⟩
  refine List.forall_mem_cons.mpr ⟨kp_aload, ?_⟩
  refine List.forall_mem_cons.mpr ⟨kp_aload, ?_⟩
  refine List.forall_mem_cons.mpr ⟨kp_geti, ?_⟩
  refine List.forall_mem_cons.mpr ⟨kp_const, ?_⟩
  refine List.forall_mem_cons.mpr ⟨kp_icmp, ?_⟩
  refine List.forall_mem_cons.mpr ⟨kp_aload, ?_⟩
  refine List.forall_mem_cons.mpr ⟨kp_geti, ?_⟩
  refine List.forall_mem_cons.mpr ⟨kp_const, ?_⟩
  refine List.forall_mem_cons.mpr ⟨kp_icmp, ?_⟩
  refine List.forall_mem_cons.mpr ⟨kp_const, ?_⟩
  refine List.forall_mem_cons.mpr ⟨kp_goto, ?_⟩
  refine List.forall_mem_cons.mpr ⟨kp_const, ?_⟩
  refine List.forall_mem_cons.mpr ⟨kp_puti, ?_⟩
  refine List.forall_mem_cons.mpr ⟨kp_vret, ?_⟩
  exact List.forall_mem_nil _
theorem kqX9_takeOperator : ∀ q ∈ tX9_takeOperator, KP q.2 := by
  unfold tX9_takeOperator
  refine List.forall_mem_cons.mpr ⟨kp_aload, ?_⟩
  refine List.forall_mem_cons.mpr ⟨kp_iload, ?_⟩
  refine List.forall_mem_cons.mpr ⟨kp_aload, ?_⟩
  refine List.forall_mem_cons.mpr ⟨kp_callv, ?_⟩
  refine List.forall_mem_cons.mpr ⟨kp_iload, ?_⟩
  refine List.forall_mem_cons.mpr ⟨kp_const, ?_⟩
  refine List.forall_mem_cons.mpr ⟨kp_icmp, ?_⟩
  refine List.forall_mem_cons.mpr ⟨kp_aload, ?_⟩
  refine List.forall_mem_cons.mpr ⟨kp_aload, ?_⟩
  refine List.forall_mem_cons.mpr ⟨kp_geti, ?_⟩
  refine List.forall_mem_cons.mpr ⟨kp_const, ?_⟩
  refine List.forall_mem_cons.mpr ⟨kp_bin (f := fun x y => x - y), ?_⟩
  refine List.forall_mem_cons.mpr ⟨kp_const, ?_⟩
  refine List.forall_mem_cons.mpr ⟨kp_mm, ?_⟩
  refine List.forall_mem_cons.mpr ⟨kp_puti, ?_⟩
  refine List.forall_mem_cons.mpr ⟨kp_aload, ?_⟩
  refine List.forall_mem_cons.mpr ⟨kp_dup, ?_⟩
  refine List.forall_mem_cons.mpr ⟨kp_geti, ?_⟩
  refine List.forall_mem_cons.mpr ⟨kp_const, ?_⟩
  refine List.forall_mem_cons.mpr ⟨kp_bin (f := fun x y => x - y), ?_⟩
  refine List.forall_mem_cons.mpr ⟨kp_puti, ?_⟩
  refine List.forall_mem_cons.mpr ⟨kp_goto, ?_⟩
  refine List.forall_mem_cons.mpr ⟨kp_iload, ?_⟩
  refine List.forall_mem_cons.mpr ⟨kp_const, ?_⟩
  refine List.forall_mem_cons.mpr ⟨kp_icmp, ?_⟩
  refine List.forall_mem_cons.mpr ⟨kp_aload, ?_⟩
  refine List.forall_mem_cons.mpr ⟨kp_aload, ?_⟩
  refine List.forall_mem_cons.mpr ⟨kp_geti, ?_⟩
  refine List.forall_mem_cons.mpr ⟨kp_callv, ?_⟩
  refine List.forall_mem_cons.mpr ⟨kp_aload, ?_⟩
  refine List.forall_mem_cons.mpr ⟨kp_const, ?_⟩
  refine List.forall_mem_cons.mpr ⟨kp_putz, ?_⟩
  refine List.forall_mem_cons.mpr ⟨kp_aload, ?_⟩
  refine List.forall_mem_cons.mpr ⟨kp_const, ?_⟩
  refine List.forall_mem_cons.mpr ⟨kp_puti, ?_⟩
  refine List.forall_mem_cons.mpr ⟨kp_goto, ?_⟩
  refine List.forall_mem_cons.mpr ⟨kp_aload, ?_⟩
  refine List.forall_mem_cons.mpr ⟨kp_iload, ?_⟩
  refine List.forall_mem_cons.mpr ⟨kp_callv, ?_⟩
  refine List.forall_mem_cons.mpr ⟨kp_aload, ?_⟩
  refine List.forall_mem_cons.mpr ⟨kp_iload, ?_⟩
  refine List.forall_mem_cons.mpr ⟨kp_call, ?_⟩
  refine List.forall_mem_cons.mpr ⟨kp_if, ?_⟩
  refine List.forall_mem_cons.mpr ⟨kp_aload, ?_⟩
  refine List.forall_mem_cons.mpr ⟨kp_geti, ?_⟩
  refine List.forall_mem_cons.mpr ⟨kp_if, ?_⟩
  refine List.forall_mem_cons.mpr ⟨kp_iload, ?_⟩
  refine List.forall_mem_cons.mpr ⟨kp_call, ?_⟩
  refine List.forall_mem_cons.mpr ⟨kp_if, ?_⟩
  refine List.forall_mem_cons.mpr ⟨kp_const, ?_⟩
  refine List.forall_mem_cons.mpr ⟨kp_goto, ?_⟩
  refine List.forall_mem_cons.mpr ⟨kp_const, ?_⟩
  refine List.forall_mem_cons.mpr ⟨kp_putz, ?_⟩
  refine List.forall_mem_cons.mpr ⟨kp_aload, ?_⟩
  refine List.forall_mem_cons.mpr ⟨kp_iload, ?_⟩
  refine List.forall_mem_cons.mpr ⟨kp_const, ?_⟩
  refine List.forall_mem_cons.mpr ⟨kp_icmp, ?_⟩
  refine List.forall_mem_cons.mpr ⟨kp_iload, ?_⟩
  refine List.forall_mem_cons.mpr ⟨kp_const, ?_⟩
  refine List.forall_mem_cons.mpr ⟨kp_icmp, ?_⟩
  refine List.forall_mem_cons.mpr ⟨kp_const, ?_⟩
  refine List.forall_mem_cons.mpr ⟨kp_goto, ?_⟩
  refine List.forall_mem_cons.mpr ⟨kp_const, ?_⟩
  refine List.forall_mem_cons.mpr ⟨kp_puti, ?_⟩
  refine List.forall_mem_cons.mpr ⟨kp_vret, ?_⟩
  exact List.forall_mem_nil _
theorem kqX9_putOff : ∀ q ∈ tX9_putOff, KP q.2 := by
  unfold tX9_putOff
  refine List.forall_mem_cons.mpr ⟨kp_aload, ?_⟩
  refine List.forall_mem_cons.mpr ⟨kp_geti, ?_⟩
  refine List.forall_mem_cons.mpr ⟨kp_aload, ?_⟩
  refine List.forall_mem_cons.mpr ⟨kp_getr, ?_⟩
  refine List.forall_mem_cons.mpr ⟨kp_alen, ?_⟩
  refine List.forall_mem_cons.mpr ⟨kp_icmp, ?_⟩
  refine List.forall_mem_cons.mpr ⟨kp_aload, ?_⟩
  refine List.forall_mem_cons.mpr ⟨kp_getr, ?_⟩
  refine List.forall_mem_cons.mpr ⟨kp_aload, ?_⟩
  refine List.forall_mem_cons.mpr ⟨kp_geti, ?_⟩
  refine List.forall_mem_cons.mpr ⟨kp_iload, ?_⟩
  refine List.forall_mem_cons.mpr ⟨kp_iast, ?_⟩
  refine List.forall_mem_cons.mpr ⟨kp_aload, ?_⟩
  refine List.forall_mem_cons.mpr ⟨kp_dup, ?_⟩
  refine List.forall_mem_cons.mpr ⟨kp_geti, ?_⟩
  refine List.forall_mem_cons.mpr ⟨kp_const, ?_⟩
  refine List.forall_mem_cons.mpr ⟨kp_bin (f := fun x y => x + y), ?_⟩
  refine List.forall_mem_cons.mpr ⟨kp_puti, ?_⟩
  refine List.forall_mem_cons.mpr ⟨kp_vret, ?_⟩
  exact List.forall_mem_nil _
theorem kqX9_writeTighter : ∀ q ∈ tX9_writeTighter, KP q.2 := by
  unfold tX9_writeTighter
  refine List.forall_mem_cons.mpr ⟨kp_aload, ?_⟩
  refine List.forall_mem_cons.mpr ⟨kp_geti, ?_⟩
  refine List.forall_mem_cons.mpr ⟨kp_if, ?_⟩
  refine List.forall_mem_cons.mpr ⟨kp_aload, ?_⟩
  refine List.forall_mem_cons.mpr ⟨kp_getr, ?_⟩
  refine List.forall_mem_cons.mpr ⟨kp_aload, ?_⟩
  refine List.forall_mem_cons.mpr ⟨kp_geti, ?_⟩
  refine List.forall_mem_cons.mpr ⟨kp_const, ?_⟩
  refine List.forall_mem_cons.mpr ⟨kp_bin (f := fun x y => x - y), ?_⟩
  refine List.forall_mem_cons.mpr ⟨kp_ald, ?_⟩
  refine List.forall_mem_cons.mpr ⟨kp_call, ?_⟩
  refine List.forall_mem_cons.mpr ⟨kp_iload, ?_⟩
  refine List.forall_mem_cons.mpr ⟨kp_call, ?_⟩
  refine List.forall_mem_cons.mpr ⟨kp_icmp, ?_⟩
  refine List.forall_mem_cons.mpr ⟨kp_aload, ?_⟩
  refine List.forall_mem_cons.mpr ⟨kp_dup, ?_⟩
  refine List.forall_mem_cons.mpr ⟨kp_geti, ?_⟩
  refine List.forall_mem_cons.mpr ⟨kp_const, ?_⟩
  refine List.forall_mem_cons.mpr ⟨kp_bin (f := fun x y => x - y), ?_⟩
  refine List.forall_mem_cons.mpr ⟨kp_puti, ?_⟩
  refine List.forall_mem_cons.mpr ⟨kp_aload, ?_⟩
  refine List.forall_mem_cons.mpr ⟨kp_aload, ?_⟩
  refine List.forall_mem_cons.mpr ⟨kp_getr, ?_⟩
  refine List.forall_mem_cons.mpr ⟨kp_aload, ?_⟩
  refine List.forall_mem_cons.mpr ⟨kp_geti, ?_⟩
  refine List.forall_mem_cons.mpr ⟨kp_ald, ?_⟩
  refine List.forall_mem_cons.mpr ⟨kp_un, ?_⟩
  refine List.forall_mem_cons.mpr ⟨kp_callv, ?_⟩
  refine List.forall_mem_cons.mpr ⟨kp_goto, ?_⟩
  refine List.forall_mem_cons.mpr ⟨kp_vret, ?_⟩
  exact List.forall_mem_nil _
theorem kqX9_tightness : ∀ q ∈ tX9_tightness, KP q.2 := by
  unfold tX9_tightness
  refine List.forall_mem_cons.mpr ⟨kp_iload, ?_⟩
  refine List.forall_mem_cons.mpr ⟨kp_sw, ?_⟩
  refine List.forall_mem_cons.mpr ⟨kp_const, ?_⟩
  refine List.forall_mem_cons.mpr ⟨kp_iret, ?_⟩
  refine List.forall_mem_cons.mpr ⟨kp_const, ?_⟩
  refine List.forall_mem_cons.mpr ⟨kp_iret, ?_⟩
  refine List.forall_mem_cons.mpr ⟨kp_const, ?_⟩
  refine List.forall_mem_cons.mpr ⟨kp_iret, ?_⟩
  refine List.forall_mem_cons.mpr ⟨kp_const, ?_⟩
  refine List.forall_mem_cons.mpr ⟨kp_iret, ?_⟩
  refine List.forall_mem_cons.mpr ⟨kp_const, ?_⟩
  refine List.forall_mem_cons.mpr ⟨kp_iret, ?_⟩
  refine List.forall_mem_cons.mpr ⟨kp_const, ?_⟩
  refine List.forall_mem_cons.mpr ⟨kp_iret, ?_⟩
  refine List.forall_mem_cons.mpr ⟨kp_const, ?_⟩
  refine List.forall_mem_cons.mpr ⟨kp_iret, ?_⟩
  exact List.forall_mem_nil _
theorem kqX10_init : ∀ q ∈ tX10_init, KP q.2 := by
  unfold tX10_init
  refine List.forall_mem_cons.mpr ⟨kp_aload, ?_⟩
  refine List.forall_mem_cons.mpr ⟨kp_objinit, ?_⟩
  refine List.forall_mem_cons.mpr ⟨kp_aload, ?_⟩
  refine List.forall_mem_cons.mpr ⟨kp_const, ?_⟩
  refine List.forall_mem_cons.mpr ⟨kp_puti, ?_⟩
  refine List.forall_mem_cons.mpr ⟨kp_aload, ?_⟩
  refine List.forall_mem_cons.mpr ⟨kp_const, ?_⟩
  refine List.forall_mem_cons.mpr ⟨kp_puti, ?_⟩
  refine List.forall_mem_cons.mpr ⟨kp_aload, ?_⟩
  refine List.forall_mem_cons.mpr ⟨kp_const, ?_⟩
  refine List.forall_mem_cons.mpr ⟨kp_newa, ?_⟩
  refine List.forall_mem_cons.mpr ⟨kp_putr, ?_⟩
  refine List.forall_mem_cons.mpr ⟨kp_aload, ?_⟩
  refine List.forall_mem_cons.mpr ⟨kp_const, ?_⟩
  refine List.forall_mem_cons.mpr ⟨kp_newa, ?_⟩
  refine List.forall_mem_cons.mpr ⟨kp_putr, ?_⟩
  refine List.forall_mem_cons.mpr ⟨kp_aload, ?_⟩
  refine List.forall_mem_cons.mpr ⟨kp_const, ?_⟩
  refine List.forall_mem_cons.mpr ⟨kp_newa, ?_⟩
  refine List.forall_mem_cons.mpr ⟨kp_putr, ?_⟩
  refine List.forall_mem_cons.mpr ⟨kp_aload, ?_⟩
  refine List.forall_mem_cons.mpr ⟨kp_const, ?_⟩
  refine List.forall_mem_cons.mpr ⟨kp_newa, ?_⟩
  refine List.forall_mem_cons.mpr ⟨kp_putr, ?_⟩
  refine List.forall_mem_cons.mpr ⟨kp_vret, ?_⟩
  exact List.forall_mem_nil _
theorem kqX10_clear : ∀ q ∈ tX10_clear, KP q.2 := by
  unfold tX10_clear
  refine List.forall_mem_cons.mpr ⟨kp_aload, ?_⟩
  refine List.forall_mem_cons.mpr ⟨kp_const, ?_⟩
  refine List.forall_mem_cons.mpr ⟨kp_puti, ?_⟩
  refine List.forall_mem_cons.mpr ⟨kp_aload, ?_⟩
  refine List.forall_mem_cons.mpr ⟨kp_const, ?_⟩
  refine List.forall_mem_cons.mpr ⟨kp_puti, ?_⟩
  refine List.forall_mem_cons.mpr ⟨kp_vret, ?_⟩
  exact List.forall_mem_nil _
theorem kqX10_write : ∀ q ∈ tX10_write, KP q.2 := by
  unfold tX10_write
  refine List.forall_mem_cons.mpr ⟨kp_aload, ?_⟩
  refine List.forall_mem_cons.mpr ⟨kp_geti, ?_⟩
  refine List.forall_mem_cons.mpr ⟨kp_aload, ?_⟩
  refine List.forall_mem_cons.mpr ⟨kp_getr, ?_⟩
  refine List.forall_mem_cons.mpr ⟨kp_alen, ?_⟩
  refine List.forall_mem_cons.mpr ⟨kp_icmp, ?_⟩
  refine List.forall_mem_cons.mpr ⟨kp_aload, ?_⟩
  refine List.forall_mem_cons.mpr ⟨kp_getr, ?_⟩
  refine List.forall_mem_cons.mpr ⟨kp_aload, ?_⟩
  refine List.forall_mem_cons.mpr ⟨kp_geti, ?_⟩
  refine List.forall_mem_cons.mpr ⟨kp_iload, ?_⟩
  refine List.forall_mem_cons.mpr ⟨kp_iast, ?_⟩
  refine List.forall_mem_cons.mpr ⟨kp_aload, ?_⟩
  refine List.forall_mem_cons.mpr ⟨kp_dup, ?_⟩
  refine List.forall_mem_cons.mpr ⟨kp_geti, ?_⟩
  refine List.forall_mem_cons.mpr ⟨kp_const, ?_⟩
  refine List.forall_mem_cons.mpr ⟨kp_bin (f := fun x y => x + y), ?_⟩
  refine List.forall_mem_cons.mpr ⟨kp_puti, ?_⟩
  refine List.forall_mem_cons.mpr ⟨kp_vret, ?_⟩
  exact List.forall_mem_nil _
theorem kqX10_endRule : ∀ q ∈ tX10_endRule, KP q.2 := by
  unfold tX10_endRule
  refine List.forall_mem_cons.mpr ⟨kp_aload, ?_⟩
  refine List.forall_mem_cons.mpr ⟨kp_geti, ?_⟩
  refine List.forall_mem_cons.mpr ⟨kp_aload, ?_⟩
  refine List.forall_mem_cons.mpr ⟨kp_getr, ?_⟩
  refine List.forall_mem_cons.mpr ⟨kp_alen, ?_⟩
  refine List.forall_mem_cons.mpr ⟨kp_icmp, ?_⟩
  refine List.forall_mem_cons.mpr ⟨kp_aload, ?_⟩
  refine List.forall_mem_cons.mpr ⟨kp_geti, ?_⟩
  refine List.forall_mem_cons.mpr ⟨kp_aload, ?_⟩
  refine List.forall_mem_cons.mpr ⟨kp_getr, ?_⟩
  refine List.forall_mem_cons.mpr ⟨kp_alen, ?_⟩
  refine List.forall_mem_cons.mpr ⟨kp_icmp, ?_⟩
  refine List.forall_mem_cons.mpr ⟨kp_aload, ?_⟩
  refine List.forall_mem_cons.mpr ⟨kp_getr, ?_⟩
  refine List.forall_mem_cons.mpr ⟨kp_aload, ?_⟩
  refine List.forall_mem_cons.mpr ⟨kp_geti, ?_⟩
  refine List.forall_mem_cons.mpr ⟨kp_aload, ?_⟩
  refine List.forall_mem_cons.mpr ⟨kp_geti, ?_⟩
  refine List.forall_mem_cons.mpr ⟨kp_iast, ?_⟩
  refine List.forall_mem_cons.mpr ⟨kp_aload, ?_⟩
  refine List.forall_mem_cons.mpr ⟨kp_getr, ?_⟩
  refine List.forall_mem_cons.mpr ⟨kp_aload, ?_⟩
  refine List.forall_mem_cons.mpr ⟨kp_geti, ?_⟩
  refine List.forall_mem_cons.mpr ⟨kp_iload, ?_⟩
  refine List.forall_mem_cons.mpr ⟨kp_iast, ?_⟩
  refine List.forall_mem_cons.mpr ⟨kp_aload, ?_⟩
  refine List.forall_mem_cons.mpr ⟨kp_dup, ?_⟩
  refine List.forall_mem_cons.mpr ⟨kp_geti, ?_⟩
  refine List.forall_mem_cons.mpr ⟨kp_const, ?_⟩
  refine List.forall_mem_cons.mpr ⟨kp_bin (f := fun x y => x + y), ?_⟩
  refine List.forall_mem_cons.mpr ⟨kp_puti, ?_⟩
  refine List.forall_mem_cons.mpr ⟨kp_vret, ?_⟩
  exact List.forall_mem_nil _
theorem kqX10_weigh : ∀ q ∈ tX10_weigh, KP q.2 := by
  unfold tX10_weigh
  refine List.forall_mem_cons.mpr ⟨kp_const, ?_⟩
  refine List.forall_mem_cons.mpr ⟨kp_istore, ?_⟩
  refine List.forall_mem_cons.mpr ⟨kp_const, ?_⟩
  refine List.forall_mem_cons.mpr ⟨kp_istore, ?_⟩
  refine List.forall_mem_cons.mpr ⟨kp_iload, ?_⟩
  refine List.forall_mem_cons.mpr ⟨kp_aload, ?_⟩
  refine List.forall_mem_cons.mpr ⟨kp_geti, ?_⟩
  refine List.forall_mem_cons.mpr ⟨kp_icmp, ?_⟩
  refine List.forall_mem_cons.mpr ⟨kp_iload, ?_⟩
  refine List.forall_mem_cons.mpr ⟨kp_aload, ?_⟩
  refine List.forall_mem_cons.mpr ⟨kp_getr, ?_⟩
  refine List.forall_mem_cons.mpr ⟨kp_alen, ?_⟩
  refine List.forall_mem_cons.mpr ⟨kp_icmp, ?_⟩
  refine List.forall_mem_cons.mpr ⟨kp_aload, ?_⟩
  refine List.forall_mem_cons.mpr ⟨kp_getr, ?_⟩
  refine List.forall_mem_cons.mpr ⟨kp_iload, ?_⟩
  refine List.forall_mem_cons.mpr ⟨kp_ald, ?_⟩
  refine List.forall_mem_cons.mpr ⟨kp_if, ?_⟩
  refine List.forall_mem_cons.mpr ⟨kp_const, ?_⟩
  refine List.forall_mem_cons.mpr ⟨kp_goto, ?_⟩
  refine List.forall_mem_cons.mpr ⟨kp_const, ?_⟩
  refine List.forall_mem_cons.mpr ⟨kp_istore, ?_⟩
  refine List.forall_mem_cons.mpr ⟨kp_iload, ?_⟩
  refine List.forall_mem_cons.mpr ⟨kp_if, ?_⟩
  refine List.forall_mem_cons.mpr ⟨kp_aload, ?_⟩
  refine List.forall_mem_cons.mpr ⟨kp_getr, ?_⟩
  refine List.forall_mem_cons.mpr ⟨kp_iload, ?_⟩
  refine List.forall_mem_cons.mpr ⟨kp_ald, ?_⟩
  refine List.forall_mem_cons.mpr ⟨kp_iload, ?_⟩
  refine List.forall_mem_cons.mpr ⟨kp_icmp, ?_⟩
  refine List.forall_mem_cons.mpr ⟨kp_aload, ?_⟩
  refine List.forall_mem_cons.mpr ⟨kp_iload, ?_⟩
  refine List.forall_mem_cons.mpr ⟨kp_aload, ?_⟩
  refine List.forall_mem_cons.mpr ⟨kp_callv, ?_⟩
  refine List.forall_mem_cons.mpr ⟨kp_if, ?_⟩
  refine List.forall_mem_cons.mpr ⟨kp_iload, ?_⟩
  refine List.forall_mem_cons.mpr ⟨kp_if, ?_⟩
  refine List.forall_mem_cons.mpr ⟨kp_const, ?_⟩
  refine List.forall_mem_cons.mpr ⟨kp_iret, ?_⟩
  refine List.forall_mem_cons.mpr ⟨kp_aload, ?_⟩
  refine List.forall_mem_cons.mpr ⟨kp_getr, ?_⟩
  refine List.forall_mem_cons.mpr ⟨kp_iload, ?_⟩
  refine List.forall_mem_cons.mpr ⟨kp_ald, ?_⟩
  refine List.forall_mem_cons.mpr ⟨kp_istore, ?_⟩
  refine List.forall_mem_cons.mpr ⟨kp_iinc, ?_⟩
  refine List.forall_mem_cons.mpr ⟨kp_goto, ?_⟩
  refine List.forall_mem_cons.mpr ⟨kp_iload, ?_⟩
  refine List.forall_mem_cons.mpr ⟨kp_iret, ?_⟩
  exact List.forall_mem_nil _
theorem kqX10_isMet : ∀ q ∈ tX10_isMet, KP q.2 := by
  unfold tX10_isMet
  refine List.forall_mem_cons.mpr ⟨kp_iload, ?_⟩
  refine List.forall_mem_cons.mpr ⟨kp_if, ?_⟩
  refine List.forall_mem_cons.mpr ⟨kp_iload, ?_⟩
  refine List.forall_mem_cons.mpr ⟨kp_aload, ?_⟩
  refine List.forall_mem_cons.mpr ⟨kp_geti, ?_⟩
  refine List.forall_mem_cons.mpr ⟨kp_icmp, ?_⟩
  refine List.forall_mem_cons.mpr ⟨kp_iload, ?_⟩
  refine List.forall_mem_cons.mpr ⟨kp_aload, ?_⟩
  refine List.forall_mem_cons.mpr ⟨kp_getr, ?_⟩
  refine List.forall_mem_cons.mpr ⟨kp_alen, ?_⟩
  refine List.forall_mem_cons.mpr ⟨kp_icmp, ?_⟩
  refine List.forall_mem_cons.mpr ⟨kp_const, ?_⟩
  refine List.forall_mem_cons.mpr ⟨kp_zret, ?_⟩
  refine List.forall_mem_cons.mpr ⟨kp_const, ?_⟩
  refine List.forall_mem_cons.mpr ⟨kp_istore, ?_⟩
  refine List.forall_mem_cons.mpr ⟨kp_aload, ?_⟩
  refine List.forall_mem_cons.mpr ⟨kp_getr, ?_⟩
  refine List.forall_mem_cons.mpr ⟨kp_iload, ?_⟩
  refine List.forall_mem_cons.mpr ⟨kp_ald, ?_⟩
  refine List.forall_mem_cons.mpr ⟨kp_aload, ?_⟩
  refine List.forall_mem_cons.mpr ⟨kp_getr, ?_⟩
  refine List.forall_mem_cons.mpr ⟨kp_alen, ?_⟩
  refine List.forall_mem_cons.mpr ⟨kp_mm, ?_⟩
  refine List.forall_mem_cons.mpr ⟨kp_istore, ?_⟩
  refine List.forall_mem_cons.mpr ⟨kp_iload, ?_⟩
  refine List.forall_mem_cons.mpr ⟨kp_if, ?_⟩
  refine List.forall_mem_cons.mpr ⟨kp_const, ?_⟩
  refine List.forall_mem_cons.mpr ⟨kp_goto, ?_⟩
  refine List.forall_mem_cons.mpr ⟨kp_aload, ?_⟩
  refine List.forall_mem_cons.mpr ⟨kp_getr, ?_⟩
  refine List.forall_mem_cons.mpr ⟨kp_iload, ?_⟩
  refine List.forall_mem_cons.mpr ⟨kp_const, ?_⟩
  refine List.forall_mem_cons.mpr ⟨kp_bin (f := fun x y => x - y), ?_⟩
  refine List.forall_mem_cons.mpr ⟨kp_ald, ?_⟩
  refine List.forall_mem_cons.mpr ⟨kp_const, ?_⟩
  refine List.forall_mem_cons.mpr ⟨kp_mm, ?_⟩
  refine List.forall_mem_cons.mpr ⟨kp_istore, ?_⟩
  refine List.forall_mem_cons.mpr ⟨kp_iload, ?_⟩
  refine List.forall_mem_cons.mpr ⟨kp_iload, ?_⟩
  refine List.forall_mem_cons.mpr ⟨kp_icmp, ?_⟩
  refine List.forall_mem_cons.mpr ⟨kp_aload, ?_⟩
  refine List.forall_mem_cons.mpr ⟨kp_getr, ?_⟩
  refine List.forall_mem_cons.mpr ⟨kp_iload, ?_⟩
  refine List.forall_mem_cons.mpr ⟨kp_ald, ?_⟩
  refine List.forall_mem_cons.mpr ⟨kp_istore, ?_⟩
  refine List.forall_mem_cons.mpr ⟨kp_iload, ?_⟩
  refine List.forall_mem_cons.mpr ⟨kp_const, ?_⟩
  refine List.forall_mem_cons.mpr ⟨kp_icmp, ?_⟩
  refine List.forall_mem_cons.mpr ⟨kp_iload, ?_⟩
  refine List.forall_mem_cons.mpr ⟨kp_const, ?_⟩
  refine List.forall_mem_cons.mpr ⟨kp_icmp, ?_⟩
  refine List.forall_mem_cons.mpr ⟨kp_const, ?_⟩
  refine List.forall_mem_cons.mpr ⟨kp_zret, ?_⟩
  refine List.forall_mem_cons.mpr ⟨kp_iinc, ?_⟩
  refine List.forall_mem_cons.mpr ⟨kp_aload, ?_⟩
  refine List.forall_mem_cons.mpr ⟨kp_getr, ?_⟩
  refine List.forall_mem_cons.mpr ⟨kp_iload, ?_⟩
  refine List.forall_mem_cons.mpr ⟨kp_const, ?_⟩
  refine List.forall_mem_cons.mpr ⟨kp_bin (f := fun x y => x - y), ?_⟩
  refine List.forall_mem_cons.mpr ⟨kp_iload, ?_⟩
  refine List.forall_mem_cons.mpr ⟨kp_un, ?_⟩
  refine List.forall_mem_cons.mpr ⟨kp_aload, ?_⟩
  refine List.forall_mem_cons.mpr ⟨kp_getr, ?_⟩
  refine List.forall_mem_cons.mpr ⟨kp_iload, ?_⟩
  refine List.forall_mem_cons.mpr ⟨kp_const, ?_⟩
  refine List.forall_mem_cons.mpr ⟨kp_bin (f := fun x y => x - y), ?_⟩
  refine List.forall_mem_cons.mpr ⟨kp_ald, ?_⟩
  refine List.forall_mem_cons.mpr ⟨kp_aload, ?_⟩
  refine List.forall_mem_cons.mpr ⟨kp_getr, ?_⟩
  refine List.forall_mem_cons.mpr ⟨kp_iload, ?_⟩
  refine List.forall_mem_cons.mpr ⟨kp_ald, ?_⟩
  refine List.forall_mem_cons.mpr ⟨kp_call, ?_⟩
  refine List.forall_mem_cons.mpr ⟨kp_iast, ?_⟩
  refine List.forall_mem_cons.mpr ⟨kp_goto, ?_⟩
  refine List.forall_mem_cons.mpr ⟨kp_iload, ?_⟩
  refine List.forall_mem_cons.mpr ⟨kp_aload, ?_⟩
  refine List.forall_mem_cons.mpr ⟨kp_getr, ?_⟩
  refine List.forall_mem_cons.mpr ⟨kp_alen, ?_⟩
  refine List.forall_mem_cons.mpr ⟨kp_icmp, ?_⟩
  refine List.forall_mem_cons.mpr ⟨kp_const, ?_⟩
  refine List.forall_mem_cons.mpr ⟨kp_zret, ?_⟩
  refine List.forall_mem_cons.mpr ⟨kp_aload, ?_⟩
  refine List.forall_mem_cons.mpr ⟨kp_getr, ?_⟩
  refine List.forall_mem_cons.mpr ⟨kp_iload, ?_⟩
  refine List.forall_mem_cons.mpr ⟨kp_iload, ?_⟩
  refine List.forall_mem_cons.mpr ⟨kp_if, ?_⟩
  refine List.forall_mem_cons.mpr ⟨kp_iload, ?_⟩
  refine List.forall_mem_cons.mpr ⟨kp_goto, ?_⟩
  refine List.forall_mem_cons.mpr ⟨kp_iload, ?_⟩
  refine List.forall_mem_cons.mpr ⟨kp_un, ?_⟩
  refine List.forall_mem_cons.mpr ⟨kp_aload, ?_⟩
  refine List.forall_mem_cons.mpr ⟨kp_call, ?_⟩
  refine List.forall_mem_cons.mpr ⟨kp_iast, ?_⟩
  refine List.forall_mem_cons.mpr ⟨kp_iinc, ?_⟩
  refine List.forall_mem_cons.mpr ⟨kp_iinc, ?_⟩
  refine List.forall_mem_cons.mpr ⟨kp_goto, ?_⟩
  refine List.forall_mem_cons.mpr ⟨kp_iload, ?_⟩
  refine List.forall_mem_cons.mpr ⟨kp_const, ?_⟩
  refine List.forall_mem_cons.mpr ⟨kp_icmp, ?_⟩
  refine List.forall_mem_cons.mpr ⟨kp_aload, ?_⟩
  refine List.forall_mem_cons.mpr ⟨kp_getr, ?_⟩
  refine List.forall_mem_cons.mpr ⟨kp_const, ?_⟩
  refine List.forall_mem_cons.mpr ⟨kp_ald, ?_⟩
  refine List.forall_mem_cons.mpr ⟨kp_if, ?_⟩
  refine List.forall_mem_cons.mpr ⟨kp_const, ?_⟩
  refine List.forall_mem_cons.mpr ⟨kp_goto, ?_⟩
  refine List.forall_mem_cons.mpr ⟨kp_const, ?_⟩
  refine List.forall_mem_cons.mpr ⟨kp_zret, ?_⟩
  exact List.forall_mem_nil _
theorem kqX10_valueOf : ∀ q ∈ tX10_valueOf, KP q.2 := by
  unfold tX10_valueOf
  refine List.forall_mem_cons.mpr ⟨kp_iload, ?_⟩
  refine List.forall_mem_cons.mpr ⟨kp_sw, ?_⟩
  refine List.forall_mem_cons.mpr ⟨kp_aload, ?_⟩
  refine List.forall_mem_cons.mpr ⟨kp_geti, ?_⟩
  refine List.forall_mem_cons.mpr ⟨kp_iret, ?_⟩
  refine List.forall_mem_cons.mpr ⟨kp_aload, ?_⟩
  refine List.forall_mem_cons.mpr ⟨kp_geti, ?_⟩
  refine List.forall_mem_cons.mpr ⟨kp_iret, ?_⟩
  refine List.forall_mem_cons.mpr ⟨kp_aload, ?_⟩
  refine List.forall_mem_cons.mpr ⟨kp_geti, ?_⟩
  refine List.forall_mem_cons.mpr ⟨kp_iret, ?_⟩
  refine List.forall_mem_cons.mpr ⟨kp_aload, ?_⟩
  refine List.forall_mem_cons.mpr ⟨kp_geti, ?_⟩
  refine List.forall_mem_cons.mpr ⟨kp_iret, ?_⟩
  refine List.forall_mem_cons.mpr ⟨kp_aload, ?_⟩
  refine List.forall_mem_cons.mpr ⟨kp_geti, ?_⟩
  refine List.forall_mem_cons.mpr ⟨kp_iret, ?_⟩
  refine List.forall_mem_cons.mpr ⟨kp_aload, ?_⟩
  refine List.forall_mem_cons.mpr ⟨kp_geti, ?_⟩
  refine List.forall_mem_cons.mpr ⟨kp_aload, ?_⟩
  refine List.forall_mem_cons.mpr ⟨kp_geti, ?_⟩
  refine List.forall_mem_cons.mpr ⟨kp_bin (f := fun x y => x - y), ?_⟩
  refine List.forall_mem_cons.mpr ⟨kp_iret, ?_⟩
  refine List.forall_mem_cons.mpr ⟨kp_aload, ?_⟩
  refine List.forall_mem_cons.mpr ⟨kp_geti, ?_⟩
  refine List.forall_mem_cons.mpr ⟨kp_iret, ?_⟩
  refine List.forall_mem_cons.mpr ⟨kp_aload, ?_⟩
  refine List.forall_mem_cons.mpr ⟨kp_geti, ?_⟩
  refine List.forall_mem_cons.mpr ⟨kp_if, ?_⟩
  refine List.forall_mem_cons.mpr ⟨kp_const, ?_⟩
  refine List.forall_mem_cons.mpr ⟨kp_goto, ?_⟩
  refine List.forall_mem_cons.mpr ⟨kp_const, ?_⟩
  refine List.forall_mem_cons.mpr ⟨kp_iret, ?_⟩
  refine List.forall_mem_cons.mpr ⟨kp_aload, ?_⟩
  refine List.forall_mem_cons.mpr ⟨kp_geti, ?_⟩
  refine List.forall_mem_cons.mpr ⟨kp_aload, ?_⟩
  refine List.forall_mem_cons.mpr ⟨kp_geti, ?_⟩
  refine List.forall_mem_cons.mpr ⟨kp_icmp, ?_⟩
  refine List.forall_mem_cons.mpr ⟨kp_const, ?_⟩
  refine List.forall_mem_cons.mpr ⟨kp_goto, ?_⟩
  refine List.forall_mem_cons.mpr ⟨kp_const, ?_⟩
  refine List.forall_mem_cons.mpr ⟨kp_iret, ?_⟩
  exact List.forall_mem_nil _
theorem kqX10_join : ∀ q ∈ tX10_join, KP q.2 := by
  unfold tX10_join
  refine List.forall_mem_cons.mpr ⟨kp_iload, ?_⟩
  refine List.forall_mem_cons.mpr ⟨kp_sw, ?_⟩
  refine List.forall_mem_cons.mpr ⟨kp_iload, ?_⟩
  refine List.forall_mem_cons.mpr ⟨kp_iload, ?_⟩
  refine List.forall_mem_cons.mpr ⟨kp_bin (f := fun x y => x ||| y), ?_⟩
  refine List.forall_mem_cons.mpr ⟨kp_iret, ?_⟩
  refine List.forall_mem_cons.mpr ⟨kp_iload, ?_⟩
  refine List.forall_mem_cons.mpr ⟨kp_iload, ?_⟩
  refine List.forall_mem_cons.mpr ⟨kp_bin (f := fun x y => x &&& y), ?_⟩
  refine List.forall_mem_cons.mpr ⟨kp_iret, ?_⟩
  refine List.forall_mem_cons.mpr ⟨kp_iload, ?_⟩
  refine List.forall_mem_cons.mpr ⟨kp_iload, ?_⟩
  refine List.forall_mem_cons.mpr ⟨kp_icmp, ?_⟩
  refine List.forall_mem_cons.mpr ⟨kp_const, ?_⟩
  refine List.forall_mem_cons.mpr ⟨kp_goto, ?_⟩
  refine List.forall_mem_cons.mpr ⟨kp_const, ?_⟩
  refine List.forall_mem_cons.mpr ⟨kp_iret, ?_⟩
  refine List.forall_mem_cons.mpr ⟨kp_iload, ?_⟩
  refine List.forall_mem_cons.mpr ⟨kp_iload, ?_⟩
  refine List.forall_mem_cons.mpr ⟨kp_icmp, ?_⟩
  refine List.forall_mem_cons.mpr ⟨kp_const, ?_⟩
  refine List.forall_mem_cons.mpr ⟨kp_goto, ?_⟩
  refine List.forall_mem_cons.mpr ⟨kp_const, ?_⟩
  refine List.forall_mem_cons.mpr ⟨kp_iret, ?_⟩
  refine List.forall_mem_cons.mpr ⟨kp_iload, ?_⟩
  refine List.forall_mem_cons.mpr ⟨kp_iload, ?_⟩
  refine List.forall_mem_cons.mpr ⟨kp_icmp, ?_⟩
  refine List.forall_mem_cons.mpr ⟨kp_const, ?_⟩
  refine List.forall_mem_cons.mpr ⟨kp_goto, ?_⟩
  refine List.forall_mem_cons.mpr ⟨kp_const, ?_⟩
  refine List.forall_mem_cons.mpr ⟨kp_iret, ?_⟩
  refine List.forall_mem_cons.mpr ⟨kp_iload, ?_⟩
  refine List.forall_mem_cons.mpr ⟨kp_iload, ?_⟩
  refine List.forall_mem_cons.mpr ⟨kp_icmp, ?_⟩
  refine List.forall_mem_cons.mpr ⟨kp_const, ?_⟩
  refine List.forall_mem_cons.mpr ⟨kp_goto, ?_⟩
  refine List.forall_mem_cons.mpr ⟨kp_const, ?_⟩
  refine List.forall_mem_cons.mpr ⟨kp_iret, ?_⟩
  refine List.forall_mem_cons.mpr ⟨kp_iload, ?_⟩
  refine List.forall_mem_cons.mpr ⟨kp_iload, ?_⟩
  refine List.forall_mem_cons.mpr ⟨kp_bin (f := fun x y => x + y), ?_⟩
  refine List.forall_mem_cons.mpr ⟨kp_iret, ?_⟩
  refine List.forall_mem_cons.mpr ⟨kp_iload, ?_⟩
  refine List.forall_mem_cons.mpr ⟨kp_iload, ?_⟩
  refine List.forall_mem_cons.mpr ⟨kp_bin (f := fun x y => x - y), ?_⟩
  refine List.forall_mem_cons.mpr ⟨kp_iret, ?_⟩
  refine List.forall_mem_cons.mpr ⟨kp_iload, ?_⟩
  refine List.forall_mem_cons.mpr ⟨kp_iload, ?_⟩
  refine List.forall_mem_cons.mpr ⟨kp_bin (f := fun x y => x * y), ?_⟩
  refine List.forall_mem_cons.mpr ⟨kp_iret, ?_⟩
  exact List.forall_mem_nil _
theorem kqX11_init : ∀ q ∈ tX11_init, KP q.2 := by
  unfold tX11_init
  refine List.forall_mem_cons.mpr ⟨kp_aload, ?_⟩
  refine List.forall_mem_cons.mpr ⟨kp_objinit, ?_⟩
  refine List.forall_mem_cons.mpr ⟨kp_aload, ?_⟩
  refine List.forall_mem_cons.mpr ⟨kp_new, ?_⟩
  refine List.forall_mem_cons.mpr ⟨kp_dup, ?_⟩
  refine List.forall_mem_cons.mpr ⟨kp_callv, ?_⟩
  refine List.forall_mem_cons.mpr ⟨kp_putr, ?_⟩
  refine List.forall_mem_cons.mpr ⟨kp_aload, ?_⟩
  refine List.forall_mem_cons.mpr ⟨kp_new, ?_⟩
  refine List.forall_mem_cons.mpr ⟨kp_dup, ?_⟩
  refine List.forall_mem_cons.mpr ⟨kp_callv, ?_⟩
  refine List.forall_mem_cons.mpr ⟨kp_putr, ?_⟩
  refine List.forall_mem_cons.mpr ⟨kp_aload, ?_⟩
  refine List.forall_mem_cons.mpr ⟨kp_new, ?_⟩
  refine List.forall_mem_cons.mpr ⟨kp_dup, ?_⟩
  refine List.forall_mem_cons.mpr ⟨kp_callv, ?_⟩
  refine List.forall_mem_cons.mpr ⟨kp_putr, ?_⟩
  refine List.forall_mem_cons.mpr ⟨kp_aload, ?_⟩
  refine List.forall_mem_cons.mpr ⟨kp_new, ?_⟩
  refine List.forall_mem_cons.mpr ⟨kp_dup, ?_⟩
  refine List.forall_mem_cons.mpr ⟨kp_callv, ?_⟩
  refine List.forall_mem_cons.mpr ⟨kp_putr, ?_⟩
  refine List.forall_mem_cons.mpr ⟨kp_aload, ?_⟩
  refine List.forall_mem_cons.mpr ⟨kp_new, ?_⟩
  refine List.forall_mem_cons.mpr ⟨kp_dup, ?_⟩
  refine List.forall_mem_cons.mpr ⟨kp_callv, ?_⟩
  refine List.forall_mem_cons.mpr ⟨kp_putr, ?_⟩
  refine List.forall_mem_cons.mpr ⟨kp_aload, ?_⟩
  refine List.forall_mem_cons.mpr ⟨kp_new, ?_⟩
  refine List.forall_mem_cons.mpr ⟨kp_dup, ?_⟩
  refine List.forall_mem_cons.mpr ⟨kp_callv, ?_⟩
  refine List.forall_mem_cons.mpr ⟨kp_putr, ?_⟩
  refine List.forall_mem_cons.mpr ⟨kp_aload, ?_⟩
  refine List.forall_mem_cons.mpr ⟨kp_new, ?_⟩
  refine List.forall_mem_cons.mpr ⟨kp_dup, ?_⟩
  refine List.forall_mem_cons.mpr ⟨kp_callv, ?_⟩
  refine List.forall_mem_cons.mpr ⟨kp_putr, ?_⟩
  refine List.forall_mem_cons.mpr ⟨kp_aload, ?_⟩
  refine List.forall_mem_cons.mpr ⟨kp_new, ?_⟩
  refine List.forall_mem_cons.mpr ⟨kp_dup, ?_⟩
  refine List.forall_mem_cons.mpr ⟨kp_callv, ?_⟩
  refine List.forall_mem_cons.mpr ⟨kp_putr, ?_⟩
  refine List.forall_mem_cons.mpr ⟨kp_aload, ?_⟩
  refine List.forall_mem_cons.mpr ⟨kp_new, ?_⟩
  refine List.forall_mem_cons.mpr ⟨kp_dup, ?_⟩
  refine List.forall_mem_cons.mpr ⟨kp_callv, ?_⟩
  refine List.forall_mem_cons.mpr ⟨kp_putr, ?_⟩
  refine List.forall_mem_cons.mpr ⟨kp_vret, ?_⟩
  exact List.forall_mem_nil _
theorem kqX11_feed : ∀ q ∈ tX11_feed, KP q.2 := by
  unfold tX11_feed
  refine List.forall_mem_cons.mpr ⟨kp_aload, ?_⟩
  refine List.forall_mem_cons.mpr ⟨kp_getr, ?_⟩
  refine List.forall_mem_cons.mpr ⟨kp_geti, ?_⟩
  refine List.forall_mem_cons.mpr ⟨kp_const, ?_⟩
  refine List.forall_mem_cons.mpr ⟨kp_icmp, ?_⟩
  refine List.forall_mem_cons.mpr ⟨kp_const, ?_⟩
  refine List.forall_mem_cons.mpr ⟨kp_iret, ?_⟩
  refine List.forall_mem_cons.mpr ⟨kp_aload, ?_⟩
  refine List.forall_mem_cons.mpr ⟨kp_getr, ?_⟩
  refine List.forall_mem_cons.mpr ⟨kp_iload, ?_⟩
  refine List.forall_mem_cons.mpr ⟨kp_callv, ?_⟩
  refine List.forall_mem_cons.mpr ⟨kp_aload, ?_⟩
  refine List.forall_mem_cons.mpr ⟨kp_getr, ?_⟩
  refine List.forall_mem_cons.mpr ⟨kp_iload, ?_⟩
  refine List.forall_mem_cons.mpr ⟨kp_callv, ?_⟩
  refine List.forall_mem_cons.mpr ⟨kp_aload, ?_⟩
  refine List.forall_mem_cons.mpr ⟨kp_getr, ?_⟩
  refine List.forall_mem_cons.mpr ⟨kp_iload, ?_⟩
  refine List.forall_mem_cons.mpr ⟨kp_callv, ?_⟩
  refine List.forall_mem_cons.mpr ⟨kp_aload, ?_⟩
  refine List.forall_mem_cons.mpr ⟨kp_getr, ?_⟩
  refine List.forall_mem_cons.mpr ⟨kp_iload, ?_⟩
  refine List.forall_mem_cons.mpr ⟨kp_callv, ?_⟩
  refine List.forall_mem_cons.mpr ⟨kp_aload, ?_⟩
  refine List.forall_mem_cons.mpr ⟨kp_getr, ?_⟩
  refine List.forall_mem_cons.mpr ⟨kp_iload, ?_⟩
  refine List.forall_mem_cons.mpr ⟨kp_callv, ?_⟩
  refine List.forall_mem_cons.mpr ⟨kp_aload, ?_⟩
  refine List.forall_mem_cons.mpr ⟨kp_getr, ?_⟩
  refine List.forall_mem_cons.mpr ⟨kp_geti, ?_⟩
  refine List.forall_mem_cons.mpr ⟨kp_iret, ?_⟩
  exact List.forall_mem_nil _
theorem kqX11_back : ∀ q ∈ tX11_back, KP q.2 := by
  unfold tX11_back
  refine List.forall_mem_cons.mpr ⟨kp_iload, ?_⟩
  refine List.forall_mem_cons.mpr ⟨kp_if, ?_⟩
  refine List.forall_mem_cons.mpr ⟨kp_iload, ?_⟩
  refine List.forall_mem_cons.mpr ⟨kp_aload, ?_⟩
  refine List.forall_mem_cons.mpr ⟨kp_getr, ?_⟩
  refine List.forall_mem_cons.mpr ⟨kp_geti, ?_⟩
  refine List.forall_mem_cons.mpr ⟨kp_icmp, ?_⟩
  refine List.forall_mem_cons.mpr ⟨kp_const, ?_⟩
  refine List.forall_mem_cons.mpr ⟨kp_iret, ?_⟩
  refine List.forall_mem_cons.mpr ⟨kp_aload, ?_⟩
  refine List.forall_mem_cons.mpr ⟨kp_getr, ?_⟩
  refine List.forall_mem_cons.mpr ⟨kp_dup, ?_⟩
  refine List.forall_mem_cons.mpr ⟨kp_geti, ?_⟩
  refine List.forall_mem_cons.mpr ⟨kp_iload, ?_⟩
  refine List.forall_mem_cons.mpr ⟨kp_bin (f := fun x y => x - y), ?_⟩
  refine List.forall_mem_cons.mpr ⟨kp_puti, ?_⟩
  refine List.forall_mem_cons.mpr ⟨kp_aload, ?_⟩
  refine List.forall_mem_cons.mpr ⟨kp_getr, ?_⟩
  refine List.forall_mem_cons.mpr ⟨kp_geti, ?_⟩
  refine List.forall_mem_cons.mpr ⟨kp_iret, ?_⟩
  exact List.forall_mem_nil _
theorem kqX11_read : ∀ q ∈ tX11_read, KP q.2 := by
  unfold tX11_read
  refine List.forall_mem_cons.mpr ⟨kp_aload, ?_⟩
  refine List.forall_mem_cons.mpr ⟨kp_getr, ?_⟩
  refine List.forall_mem_cons.mpr ⟨kp_aload, ?_⟩
  refine List.forall_mem_cons.mpr ⟨kp_getr, ?_⟩
  refine List.forall_mem_cons.mpr ⟨kp_aload, ?_⟩
  refine List.forall_mem_cons.mpr ⟨kp_getr, ?_⟩
  refine List.forall_mem_cons.mpr ⟨kp_callv, ?_⟩
  refine List.forall_mem_cons.mpr ⟨kp_aload, ?_⟩
  refine List.forall_mem_cons.mpr ⟨kp_getr, ?_⟩
  refine List.forall_mem_cons.mpr ⟨kp_const, ?_⟩
  refine List.forall_mem_cons.mpr ⟨kp_puti, ?_⟩
  refine List.forall_mem_cons.mpr ⟨kp_aload, ?_⟩
  refine List.forall_mem_cons.mpr ⟨kp_getr, ?_⟩
  refine List.forall_mem_cons.mpr ⟨kp_geti, ?_⟩
  refine List.forall_mem_cons.mpr ⟨kp_if, ?_⟩
  refine List.forall_mem_cons.mpr ⟨kp_aload, ?_⟩
  refine List.forall_mem_cons.mpr ⟨kp_getr, ?_⟩
  refine List.forall_mem_cons.mpr ⟨kp_astore, ?_⟩
  refine List.forall_mem_cons.mpr ⟨kp_aload, ?_⟩
  refine List.forall_mem_cons.mpr ⟨kp_aload, ?_⟩
  refine List.forall_mem_cons.mpr ⟨kp_getr, ?_⟩
  refine List.forall_mem_cons.mpr ⟨kp_putr, ?_⟩
  refine List.forall_mem_cons.mpr ⟨kp_aload, ?_⟩
  refine List.forall_mem_cons.mpr ⟨kp_aload, ?_⟩
  refine List.forall_mem_cons.mpr ⟨kp_putr, ?_⟩
  refine List.forall_mem_cons.mpr ⟨kp_aload, ?_⟩
  refine List.forall_mem_cons.mpr ⟨kp_getr, ?_⟩
  refine List.forall_mem_cons.mpr ⟨kp_geti, ?_⟩
  refine List.forall_mem_cons.mpr ⟨kp_iret, ?_⟩
  exact List.forall_mem_nil _
theorem kqX11_place : ∀ q ∈ tX11_place, KP q.2 := by
  unfold tX11_place
  refine List.forall_mem_cons.mpr ⟨kp_aload, ?_⟩
  refine List.forall_mem_cons.mpr ⟨kp_getr, ?_⟩
  refine List.forall_mem_cons.mpr ⟨kp_geti, ?_⟩
  refine List.forall_mem_cons.mpr ⟨kp_iret, ?_⟩
  exact List.forall_mem_nil _
theorem kqX11_channels : ∀ q ∈ tX11_channels, KP q.2 := by
  unfold tX11_channels
  refine List.forall_mem_cons.mpr ⟨kp_iload, ?_⟩
  refine List.forall_mem_cons.mpr ⟨kp_const, ?_⟩
  refine List.forall_mem_cons.mpr ⟨kp_icmp, ?_⟩
  refine List.forall_mem_cons.mpr ⟨kp_iload, ?_⟩
  refine List.forall_mem_cons.mpr ⟨kp_const, ?_⟩
  refine List.forall_mem_cons.mpr ⟨kp_icmp, ?_⟩
  refine List.forall_mem_cons.mpr ⟨kp_aload, ?_⟩
  refine List.forall_mem_cons.mpr ⟨kp_getr, ?_⟩
  refine List.forall_mem_cons.mpr ⟨kp_geti, ?_⟩
  refine List.forall_mem_cons.mpr ⟨kp_if, ?_⟩
  refine List.forall_mem_cons.mpr ⟨kp_const, ?_⟩
  refine List.forall_mem_cons.mpr ⟨kp_zret, ?_⟩
  refine List.forall_mem_cons.mpr ⟨kp_aload, ?_⟩
  refine List.forall_mem_cons.mpr ⟨kp_getr, ?_⟩
  refine List.forall_mem_cons.mpr ⟨kp_iload, ?_⟩
  refine List.forall_mem_cons.mpr ⟨kp_puti, ?_⟩
  refine List.forall_mem_cons.mpr ⟨kp_const, ?_⟩
  refine List.forall_mem_cons.mpr ⟨kp_zret, ?_⟩
  exact List.forall_mem_nil _
theorem kqX11_source : ∀ q ∈ tX11_source, KP q.2 := by
  unfold tX11_source
  refine List.forall_mem_cons.mpr ⟨kp_iload, ?_⟩
  refine List.forall_mem_cons.mpr ⟨kp_const, ?_⟩
  refine List.forall_mem_cons.mpr ⟨kp_icmp, ?_⟩
  refine List.forall_mem_cons.mpr ⟨kp_iload, ?_⟩
  refine List.forall_mem_cons.mpr ⟨kp_const, ?_⟩
  refine List.forall_mem_cons.mpr ⟨kp_icmp, ?_⟩
  refine List.forall_mem_cons.mpr ⟨kp_const, ?_⟩
  refine List.forall_mem_cons.mpr ⟨kp_iret, ?_⟩
  refine List.forall_mem_cons.mpr ⟨kp_aload, ?_⟩
  refine List.forall_mem_cons.mpr ⟨kp_getr, ?_⟩
  refine List.forall_mem_cons.mpr ⟨kp_iload, ?_⟩
  refine List.forall_mem_cons.mpr ⟨kp_callv, ?_⟩
  refine List.forall_mem_cons.mpr ⟨kp_iret, ?_⟩
  exact List.forall_mem_nil _
theorem kqX11_notice : ∀ q ∈ tX11_notice, KP q.2 := by
  unfold tX11_notice
  refine List.forall_mem_cons.mpr ⟨kp_aload, ?_⟩
  refine List.forall_mem_cons.mpr ⟨kp_getr, ?_⟩
  refine List.forall_mem_cons.mpr ⟨kp_iload, ?_⟩
  refine List.forall_mem_cons.mpr ⟨kp_callv, ?_⟩
  refine List.forall_mem_cons.mpr ⟨kp_astore, ?_⟩
  refine List.forall_mem_cons.mpr ⟨kp_aload, ?_⟩
  refine List.forall_mem_cons.mpr ⟨kp_ifnull, ?_⟩
  refine List.forall_mem_cons.mpr ⟨kp_aload, ?_⟩
  refine List.forall_mem_cons.mpr ⟨kp_getr, ?_⟩
  refine List.forall_mem_cons.mpr ⟨kp_iload, ?_⟩
  refine List.forall_mem_cons.mpr ⟨kp_callv, ?_⟩
  refine List.forall_mem_cons.mpr ⟨kp_if, ?_⟩
  refine List.forall_mem_cons.mpr ⟨kp_const, ?_⟩
  refine List.forall_mem_cons.mpr ⟨kp_iret, ?_⟩
  refine List.forall_mem_cons.mpr ⟨kp_iload, ?_⟩
  refine List.forall_mem_cons.mpr ⟨kp_if, ?_⟩
  refine List.forall_mem_cons.mpr ⟨kp_iload, ?_⟩
  refine List.forall_mem_cons.mpr ⟨kp_iload, ?_⟩
  refine List.forall_mem_cons.mpr ⟨kp_icmp, ?_⟩
  refine List.forall_mem_cons.mpr ⟨kp_iload, ?_⟩
  refine List.forall_mem_cons.mpr ⟨kp_const, ?_⟩
  refine List.forall_mem_cons.mpr ⟨kp_icmp, ?_⟩
  refine List.forall_mem_cons.mpr ⟨kp_const, ?_⟩
  refine List.forall_mem_cons.mpr ⟨kp_iret, ?_⟩
  refine List.forall_mem_cons.mpr ⟨kp_iload, ?_⟩
  refine List.forall_mem_cons.mpr ⟨kp_if, ?_⟩
  refine List.forall_mem_cons.mpr ⟨kp_iload, ?_⟩
  refine List.forall_mem_cons.mpr ⟨kp_const, ?_⟩
  refine List.forall_mem_cons.mpr ⟨kp_icmp, ?_⟩
  refine List.forall_mem_cons.mpr ⟨kp_iload, ?_⟩
  refine List.forall_mem_cons.mpr ⟨kp_if, ?_⟩
  refine List.forall_mem_cons.mpr ⟨kp_iload, ?_⟩
  refine List.forall_mem_cons.mpr ⟨kp_const, ?_⟩
  refine List.forall_mem_cons.mpr ⟨kp_icmp, ?_⟩
  refine List.forall_mem_cons.mpr ⟨kp_const, ?_⟩
  refine List.forall_mem_cons.mpr ⟨kp_iret, ?_⟩
  refine List.forall_mem_cons.mpr ⟨kp_aload, ?_⟩
  refine List.forall_mem_cons.mpr ⟨kp_getr, ?_⟩
  refine List.forall_mem_cons.mpr ⟨kp_geti, ?_⟩
  refine List.forall_mem_cons.mpr ⟨kp_const, ?_⟩
  refine List.forall_mem_cons.mpr ⟨kp_icmp, ?_⟩
  refine List.forall_mem_cons.mpr ⟨kp_const, ?_⟩
  refine List.forall_mem_cons.mpr ⟨kp_iret, ?_⟩
  refine List.forall_mem_cons.mpr ⟨kp_aload, ?_⟩
  refine List.forall_mem_cons.mpr ⟨kp_getr, ?_⟩
  refine List.forall_mem_cons.mpr ⟨kp_new, ?_⟩
  refine List.forall_mem_cons.mpr ⟨kp_dup, ?_⟩
  refine List.forall_mem_cons.mpr ⟨kp_aload, ?_⟩
  refine List.forall_mem_cons.mpr ⟨kp_iload, ?_⟩
  refine List.forall_mem_cons.mpr ⟨kp_iload, ?_⟩
  refine List.forall_mem_cons.mpr ⟨kp_iload, ?_⟩
  refine List.forall_mem_cons.mpr ⟨kp_iload, ?_⟩
  refine List.forall_mem_cons.mpr ⟨kp_iload, ?_⟩
  refine List.forall_mem_cons.mpr ⟨kp_iload, ?_⟩
  refine List.forall_mem_cons.mpr ⟨kp_callv, ?_⟩
  refine List.forall_mem_cons.mpr ⟨kp_callv, ?_⟩
  refine List.forall_mem_cons.mpr ⟨kp_iret, ?_⟩
  exact List.forall_mem_nil _
theorem kqX11_over : ∀ q ∈ tX11_over, KP q.2 := by
  unfold tX11_over
  refine List.forall_mem_cons.mpr ⟨kp_aload, ?_⟩
  refine List.forall_mem_cons.mpr ⟨kp_getr, ?_⟩
  refine List.forall_mem_cons.mpr ⟨kp_iload, ?_⟩
  refine List.forall_mem_cons.mpr ⟨kp_callv, ?_⟩
  refine List.forall_mem_cons.mpr ⟨kp_if, ?_⟩
  refine List.forall_mem_cons.mpr ⟨kp_iload, ?_⟩
  refine List.forall_mem_cons.mpr ⟨kp_const, ?_⟩
  refine List.forall_mem_cons.mpr ⟨kp_icmp, ?_⟩
  refine List.forall_mem_cons.mpr ⟨kp_iload, ?_⟩
  refine List.forall_mem_cons.mpr ⟨kp_const, ?_⟩
  refine List.forall_mem_cons.mpr ⟨kp_icmp, ?_⟩
  refine List.forall_mem_cons.mpr ⟨kp_iload, ?_⟩
  refine List.forall_mem_cons.mpr ⟨kp_const, ?_⟩
  refine List.forall_mem_cons.mpr ⟨kp_icmp, ?_⟩
  refine List.forall_mem_cons.mpr ⟨kp_iload, ?_⟩
  refine List.forall_mem_cons.mpr ⟨kp_const, ?_⟩
  refine List.forall_mem_cons.mpr ⟨kp_icmp, ?_⟩
  refine List.forall_mem_cons.mpr ⟨kp_const, ?_⟩
  refine List.forall_mem_cons.mpr ⟨kp_iret, ?_⟩
  refine List.forall_mem_cons.mpr ⟨kp_aload, ?_⟩
  refine List.forall_mem_cons.mpr ⟨kp_getr, ?_⟩
  refine List.forall_mem_cons.mpr ⟨kp_geti, ?_⟩
  refine List.forall_mem_cons.mpr ⟨kp_const, ?_⟩
  refine List.forall_mem_cons.mpr ⟨kp_icmp, ?_⟩
  refine List.forall_mem_cons.mpr ⟨kp_const, ?_⟩
  refine List.forall_mem_cons.mpr ⟨kp_iret, ?_⟩
  refine List.forall_mem_cons.mpr ⟨kp_aload, ?_⟩
  refine List.forall_mem_cons.mpr ⟨kp_getr, ?_⟩
  refine List.forall_mem_cons.mpr ⟨kp_new, ?_⟩
  refine List.forall_mem_cons.mpr ⟨kp_dup, ?_⟩
  refine List.forall_mem_cons.mpr ⟨kp_const, ?_⟩
  refine List.forall_mem_cons.mpr ⟨kp_iload, ?_⟩
  refine List.forall_mem_cons.mpr ⟨kp_iload, ?_⟩
  refine List.forall_mem_cons.mpr ⟨kp_iload, ?_⟩
  refine List.forall_mem_cons.mpr ⟨kp_iload, ?_⟩
  refine List.forall_mem_cons.mpr ⟨kp_bin (f := fun x y => x + y), ?_⟩
  refine List.forall_mem_cons.mpr ⟨kp_const, ?_⟩
  refine List.forall_mem_cons.mpr ⟨kp_const, ?_⟩
  refine List.forall_mem_cons.mpr ⟨kp_const, ?_⟩
  refine List.forall_mem_cons.mpr ⟨kp_callv, ?_⟩
  refine List.forall_mem_cons.mpr ⟨kp_callv, ?_⟩
  refine List.forall_mem_cons.mpr ⟨kp_iret, ?_⟩
  exact List.forall_mem_nil _
theorem kqX11_recorder : ∀ q ∈ tX11_recorder, KP q.2 := by
  unfold tX11_recorder
  refine List.forall_mem_cons.mpr ⟨kp_iload, ?_⟩
  refine List.forall_mem_cons.mpr ⟨kp_const, ?_⟩
  refine List.forall_mem_cons.mpr ⟨kp_icmp, ?_⟩
  refine List.forall_mem_cons.mpr ⟨kp_iload, ?_⟩
  refine List.forall_mem_cons.mpr ⟨kp_const, ?_⟩
  refine List.forall_mem_cons.mpr ⟨kp_icmp, ?_⟩
  refine List.forall_mem_cons.mpr ⟨kp_iload, ?_⟩
  refine List.forall_mem_cons.mpr ⟨kp_if, ?_⟩
  refine List.forall_mem_cons.mpr ⟨kp_iload, ?_⟩
  refine List.forall_mem_cons.mpr ⟨kp_const, ?_⟩
  refine List.forall_mem_cons.mpr ⟨kp_icmp, ?_⟩
  refine List.forall_mem_cons.mpr ⟨kp_const, ?_⟩
  refine List.forall_mem_cons.mpr ⟨kp_zret, ?_⟩
  refine List.forall_mem_cons.mpr ⟨kp_iload, ?_⟩
  refine List.forall_mem_cons.mpr ⟨kp_if, ?_⟩
  refine List.forall_mem_cons.mpr ⟨kp_iload, ?_⟩
  refine List.forall_mem_cons.mpr ⟨kp_const, ?_⟩
  refine List.forall_mem_cons.mpr ⟨kp_icmp, ?_⟩
  refine List.forall_mem_cons.mpr ⟨kp_iload, ?_⟩
  refine List.forall_mem_cons.mpr ⟨kp_if, ?_⟩
  refine List.forall_mem_cons.mpr ⟨kp_iload, ?_⟩
  refine List.forall_mem_cons.mpr ⟨kp_const, ?_⟩
  refine List.forall_mem_cons.mpr ⟨kp_icmp, ?_⟩
  refine List.forall_mem_cons.mpr ⟨kp_const, ?_⟩
  refine List.forall_mem_cons.mpr ⟨kp_zret, ?_⟩
  refine List.forall_mem_cons.mpr ⟨kp_aload, ?_⟩
  refine List.forall_mem_cons.mpr ⟨kp_getr, ?_⟩
  refine List.forall_mem_cons.mpr ⟨kp_iload, ?_⟩
  refine List.forall_mem_cons.mpr ⟨kp_puti, ?_⟩
  refine List.forall_mem_cons.mpr ⟨kp_aload, ?_⟩
  refine List.forall_mem_cons.mpr ⟨kp_getr, ?_⟩
  refine List.forall_mem_cons.mpr ⟨kp_iload, ?_⟩
  refine List.forall_mem_cons.mpr ⟨kp_puti, ?_⟩
  refine List.forall_mem_cons.mpr ⟨kp_aload, ?_⟩
  refine List.forall_mem_cons.mpr ⟨kp_getr, ?_⟩
  refine List.forall_mem_cons.mpr ⟨kp_iload, ?_⟩
  refine List.forall_mem_cons.mpr ⟨kp_puti, ?_⟩
  refine List.forall_mem_cons.mpr ⟨kp_aload, ?_⟩
  refine List.forall_mem_cons.mpr ⟨kp_getr, ?_⟩
  refine List.forall_mem_cons.mpr ⟨kp_iload, ?_⟩
  refine List.forall_mem_cons.mpr ⟨kp_puti, ?_⟩
  refine List.forall_mem_cons.mpr ⟨kp_const, ?_⟩
  refine List.forall_mem_cons.mpr ⟨kp_zret, ?_⟩
  exact List.forall_mem_nil _
theorem kqX11_clock : ∀ q ∈ tX11_clock, KP q.2 := by
  unfold tX11_clock
  refine List.forall_mem_cons.mpr ⟨kp_iload, ?_⟩
  refine List.forall_mem_cons.mpr ⟨kp_aload, ?_⟩
  refine List.forall_mem_cons.mpr ⟨kp_getr, ?_⟩
  refine List.forall_mem_cons.mpr ⟨kp_geti, ?_⟩
  refine List.forall_mem_cons.mpr ⟨kp_icmp, ?_⟩
  refine List.forall_mem_cons.mpr ⟨kp_iload, ?_⟩
  refine List.forall_mem_cons.mpr ⟨kp_const, ?_⟩
  refine List.forall_mem_cons.mpr ⟨kp_icmp, ?_⟩
  refine List.forall_mem_cons.mpr ⟨kp_const, ?_⟩
  refine List.forall_mem_cons.mpr ⟨kp_zret, ?_⟩
  refine List.forall_mem_cons.mpr ⟨kp_aload, ?_⟩
  refine List.forall_mem_cons.mpr ⟨kp_getr, ?_⟩
  refine List.forall_mem_cons.mpr ⟨kp_iload, ?_⟩
  refine List.forall_mem_cons.mpr ⟨kp_puti, ?_⟩
  refine List.forall_mem_cons.mpr ⟨kp_const, ?_⟩
  refine List.forall_mem_cons.mpr ⟨kp_zret, ?_⟩
  exact List.forall_mem_nil _
theorem kqX11_sent : ∀ q ∈ tX11_sent, KP q.2 := by
  unfold tX11_sent
  refine List.forall_mem_cons.mpr ⟨kp_aload, ?_⟩
  refine List.forall_mem_cons.mpr ⟨kp_getr, ?_⟩
  refine List.forall_mem_cons.mpr ⟨kp_iload, ?_⟩
  refine List.forall_mem_cons.mpr ⟨kp_callv, ?_⟩
  refine List.forall_mem_cons.mpr ⟨kp_if, ?_⟩
  refine List.forall_mem_cons.mpr ⟨kp_iload, ?_⟩
  refine List.forall_mem_cons.mpr ⟨kp_if, ?_⟩
  refine List.forall_mem_cons.mpr ⟨kp_iload, ?_⟩
  refine List.forall_mem_cons.mpr ⟨kp_const, ?_⟩
  refine List.forall_mem_cons.mpr ⟨kp_icmp, ?_⟩
  refine List.forall_mem_cons.mpr ⟨kp_aload, ?_⟩
  refine List.forall_mem_cons.mpr ⟨kp_getr, ?_⟩
  refine List.forall_mem_cons.mpr ⟨kp_iload, ?_⟩
  refine List.forall_mem_cons.mpr ⟨kp_callv, ?_⟩
  refine List.forall_mem_cons.mpr ⟨kp_if, ?_⟩
  refine List.forall_mem_cons.mpr ⟨kp_const, ?_⟩
  refine List.forall_mem_cons.mpr ⟨kp_iret, ?_⟩
  refine List.forall_mem_cons.mpr ⟨kp_aload, ?_⟩
  refine List.forall_mem_cons.mpr ⟨kp_getr, ?_⟩
  refine List.forall_mem_cons.mpr ⟨kp_aload, ?_⟩
  refine List.forall_mem_cons.mpr ⟨kp_getr, ?_⟩
  refine List.forall_mem_cons.mpr ⟨kp_iload, ?_⟩
  refine List.forall_mem_cons.mpr ⟨kp_callv, ?_⟩
  refine List.forall_mem_cons.mpr ⟨kp_aload, ?_⟩
  refine List.forall_mem_cons.mpr ⟨kp_getr, ?_⟩
  refine List.forall_mem_cons.mpr ⟨kp_iload, ?_⟩
  refine List.forall_mem_cons.mpr ⟨kp_iload, ?_⟩
  refine List.forall_mem_cons.mpr ⟨kp_callv, ?_⟩
  refine List.forall_mem_cons.mpr ⟨kp_iret, ?_⟩
  exact List.forall_mem_nil _
theorem kqX11_says : ∀ q ∈ tX11_says, KP q.2 := by
  unfold tX11_says
  refine List.forall_mem_cons.mpr ⟨kp_aload, ?_⟩
  refine List.forall_mem_cons.mpr ⟨kp_getr, ?_⟩
  refine List.forall_mem_cons.mpr ⟨kp_iload, ?_⟩
  refine List.forall_mem_cons.mpr ⟨kp_callv, ?_⟩
  refine List.forall_mem_cons.mpr ⟨kp_astore, ?_⟩
  refine List.forall_mem_cons.mpr ⟨kp_aload, ?_⟩
  refine List.forall_mem_cons.mpr ⟨kp_ifnull, ?_⟩
  refine List.forall_mem_cons.mpr ⟨kp_aload, ?_⟩
  refine List.forall_mem_cons.mpr ⟨kp_getr, ?_⟩
  refine List.forall_mem_cons.mpr ⟨kp_iload, ?_⟩
  refine List.forall_mem_cons.mpr ⟨kp_callv, ?_⟩
  refine List.forall_mem_cons.mpr ⟨kp_if, ?_⟩
  refine List.forall_mem_cons.mpr ⟨kp_iload, ?_⟩
  refine List.forall_mem_cons.mpr ⟨kp_if, ?_⟩
  refine List.forall_mem_cons.mpr ⟨kp_iload, ?_⟩
  refine List.forall_mem_cons.mpr ⟨kp_const, ?_⟩
  refine List.forall_mem_cons.mpr ⟨kp_icmp, ?_⟩
  refine List.forall_mem_cons.mpr ⟨kp_aload, ?_⟩
  refine List.forall_mem_cons.mpr ⟨kp_getr, ?_⟩
  refine List.forall_mem_cons.mpr ⟨kp_iload, ?_⟩
  refine List.forall_mem_cons.mpr ⟨kp_callv, ?_⟩
  refine List.forall_mem_cons.mpr ⟨kp_if, ?_⟩
  refine List.forall_mem_cons.mpr ⟨kp_const, ?_⟩
  refine List.forall_mem_cons.mpr ⟨kp_iret, ?_⟩
  refine List.forall_mem_cons.mpr ⟨kp_aload, ?_⟩
  refine List.forall_mem_cons.mpr ⟨kp_getr, ?_⟩
  refine List.forall_mem_cons.mpr ⟨kp_aload, ?_⟩
  refine List.forall_mem_cons.mpr ⟨kp_iload, ?_⟩
  refine List.forall_mem_cons.mpr ⟨kp_iload, ?_⟩
  refine List.forall_mem_cons.mpr ⟨kp_iload, ?_⟩
  refine List.forall_mem_cons.mpr ⟨kp_callv, ?_⟩
  refine List.forall_mem_cons.mpr ⟨kp_iret, ?_⟩
  exact List.forall_mem_nil _
theorem kqX11_showing : ∀ q ∈ tX11_showing, KP q.2 := by
  unfold tX11_showing
  refine List.forall_mem_cons.mpr ⟨kp_aload, ?_⟩
  refine List.forall_mem_cons.mpr ⟨kp_iload, ?_⟩
  refine List.forall_mem_cons.mpr ⟨kp_iload, ?_⟩
  refine List.forall_mem_cons.mpr ⟨kp_callv, ?_⟩
  refine List.forall_mem_cons.mpr ⟨kp_astore, ?_⟩
  refine List.forall_mem_cons.mpr ⟨kp_aload, ?_⟩
  refine List.forall_mem_cons.mpr ⟨kp_ifnull, ?_⟩
  refine List.forall_mem_cons.mpr ⟨kp_const, ?_⟩
  refine List.forall_mem_cons.mpr ⟨kp_iret, ?_⟩
  refine List.forall_mem_cons.mpr ⟨kp_iload, ?_⟩
  refine List.forall_mem_cons.mpr ⟨kp_sw, ?_⟩
  refine List.forall_mem_cons.mpr ⟨kp_aload, ?_⟩
  refine List.forall_mem_cons.mpr ⟨kp_geti, ?_⟩
  refine List.forall_mem_cons.mpr ⟨kp_iret, ?_⟩
  refine List.forall_mem_cons.mpr ⟨kp_aload, ?_⟩
  refine List.forall_mem_cons.mpr ⟨kp_geti, ?_⟩
  refine List.forall_mem_cons.mpr ⟨kp_iret, ?_⟩
  refine List.forall_mem_cons.mpr ⟨kp_aload, ?_⟩
  refine List.forall_mem_cons.mpr ⟨kp_geti, ?_⟩
  refine List.forall_mem_cons.mpr ⟨kp_iret, ?_⟩
  refine List.forall_mem_cons.mpr ⟨kp_aload, ?_⟩
  refine List.forall_mem_cons.mpr ⟨kp_geti, ?_⟩
  refine List.forall_mem_cons.mpr ⟨kp_iret, ?_⟩
  refine List.forall_mem_cons.mpr ⟨kp_aload, ?_⟩
  refine List.forall_mem_cons.mpr ⟨kp_geti, ?_⟩
  refine List.forall_mem_cons.mpr ⟨kp_iret, ?_⟩
  refine List.forall_mem_cons.mpr ⟨kp_aload, ?_⟩
  refine List.forall_mem_cons.mpr ⟨kp_geti, ?_⟩
  refine List.forall_mem_cons.mpr ⟨kp_iret, ?_⟩
  refine List.forall_mem_cons.mpr ⟨kp_aload, ?_⟩
  refine List.forall_mem_cons.mpr ⟨kp_getr, ?_⟩
  refine List.forall_mem_cons.mpr ⟨kp_aload, ?_⟩
  refine List.forall_mem_cons.mpr ⟨kp_callv, ?_⟩
  refine List.forall_mem_cons.mpr ⟨kp_iret, ?_⟩
  refine List.forall_mem_cons.mpr ⟨kp_aload, ?_⟩
  refine List.forall_mem_cons.mpr ⟨kp_geti, ?_⟩
  refine List.forall_mem_cons.mpr ⟨kp_iret, ?_⟩
  refine List.forall_mem_cons.mpr ⟨kp_aload, ?_⟩
  refine List.forall_mem_cons.mpr ⟨kp_getr, ?_⟩
  refine List.forall_mem_cons.mpr ⟨kp_aload, ?_⟩
  refine List.forall_mem_cons.mpr ⟨kp_callv, ?_⟩
  refine List.forall_mem_cons.mpr ⟨kp_iret, ?_⟩
  refine List.forall_mem_cons.mpr ⟨kp_const, ?_⟩
  refine List.forall_mem_cons.mpr ⟨kp_iret, ?_⟩
  exact List.forall_mem_nil _
theorem kqX11_showings : ∀ q ∈ tX11_showings, KP q.2 := by
  unfold tX11_showings
  refine List.forall_mem_cons.mpr ⟨kp_aload, ?_⟩
  refine List.forall_mem_cons.mpr ⟨kp_getr, ?_⟩
  refine List.forall_mem_cons.mpr ⟨kp_iload, ?_⟩
  refine List.forall_mem_cons.mpr ⟨kp_callv, ?_⟩
  refine List.forall_mem_cons.mpr ⟨kp_if, ?_⟩
  refine List.forall_mem_cons.mpr ⟨kp_const, ?_⟩
  refine List.forall_mem_cons.mpr ⟨kp_iret, ?_⟩
  refine List.forall_mem_cons.mpr ⟨kp_aload, ?_⟩
  refine List.forall_mem_cons.mpr ⟨kp_getr, ?_⟩
  refine List.forall_mem_cons.mpr ⟨kp_aload, ?_⟩
  refine List.forall_mem_cons.mpr ⟨kp_getr, ?_⟩
  refine List.forall_mem_cons.mpr ⟨kp_iload, ?_⟩
  refine List.forall_mem_cons.mpr ⟨kp_callv, ?_⟩
  refine List.forall_mem_cons.mpr ⟨kp_aload, ?_⟩
  refine List.forall_mem_cons.mpr ⟨kp_getr, ?_⟩
  refine List.forall_mem_cons.mpr ⟨kp_geti, ?_⟩
  refine List.forall_mem_cons.mpr ⟨kp_iret, ?_⟩
  exact List.forall_mem_nil _
theorem kqX11_holds : ∀ q ∈ tX11_holds, KP q.2 := by
  unfold tX11_holds
  refine List.forall_mem_cons.mpr ⟨kp_aload, ?_⟩
  refine List.forall_mem_cons.mpr ⟨kp_iload, ?_⟩
  refine List.forall_mem_cons.mpr ⟨kp_iload, ?_⟩
  refine List.forall_mem_cons.mpr ⟨kp_callv, ?_⟩
  refine List.forall_mem_cons.mpr ⟨kp_astore, ?_⟩
  refine List.forall_mem_cons.mpr ⟨kp_aload, ?_⟩
  refine List.forall_mem_cons.mpr ⟨kp_ifnull, ?_⟩
  refine List.forall_mem_cons.mpr ⟨kp_iload, ?_⟩
  refine List.forall_mem_cons.mpr ⟨kp_if, ?_⟩
  refine List.forall_mem_cons.mpr ⟨kp_iload, ?_⟩
  refine List.forall_mem_cons.mpr ⟨kp_aload, ?_⟩
  refine List.forall_mem_cons.mpr ⟨kp_getr, ?_⟩
  refine List.forall_mem_cons.mpr ⟨kp_geti, ?_⟩
  refine List.forall_mem_cons.mpr ⟨kp_icmp, ?_⟩
  refine List.forall_mem_cons.mpr ⟨kp_const, ?_⟩
  refine List.forall_mem_cons.mpr ⟨kp_iret, ?_⟩
  refine List.forall_mem_cons.mpr ⟨kp_aload, ?_⟩
  refine List.forall_mem_cons.mpr ⟨kp_getr, ?_⟩
  refine List.forall_mem_cons.mpr ⟨kp_iload, ?_⟩
  refine List.forall_mem_cons.mpr ⟨kp_aload, ?_⟩
  refine List.forall_mem_cons.mpr ⟨kp_callv, ?_⟩
  refine List.forall_mem_cons.mpr ⟨kp_if, ?_⟩
  refine List.forall_mem_cons.mpr ⟨kp_const, ?_⟩
  refine List.forall_mem_cons.mpr ⟨kp_goto, ?_⟩
  refine List.forall_mem_cons.mpr ⟨kp_const, ?_⟩
  refine List.forall_mem_cons.mpr ⟨kp_iret, ?_⟩
  exact List.forall_mem_nil _
theorem kqX11_plan : ∀ q ∈ tX11_plan, KP q.2 := by
  unfold tX11_plan
  refine List.forall_mem_cons.mpr ⟨kp_aload, ?_⟩
  refine List.forall_mem_cons.mpr ⟨kp_getr, ?_⟩
  refine List.forall_mem_cons.mpr ⟨kp_iload, ?_⟩
  refine List.forall_mem_cons.mpr ⟨kp_callv, ?_⟩
  refine List.forall_mem_cons.mpr ⟨kp_if, ?_⟩
  refine List.forall_mem_cons.mpr ⟨kp_const, ?_⟩
  refine List.forall_mem_cons.mpr ⟨kp_iret, ?_⟩
  refine List.forall_mem_cons.mpr ⟨kp_aload, ?_⟩
  refine List.forall_mem_cons.mpr ⟨kp_getr, ?_⟩
  refine List.forall_mem_cons.mpr ⟨kp_aload, ?_⟩
  refine List.forall_mem_cons.mpr ⟨kp_getr, ?_⟩
  refine List.forall_mem_cons.mpr ⟨kp_iload, ?_⟩
  refine List.forall_mem_cons.mpr ⟨kp_callv, ?_⟩
  refine List.forall_mem_cons.mpr ⟨kp_aload, ?_⟩
  refine List.forall_mem_cons.mpr ⟨kp_getr, ?_⟩
  refine List.forall_mem_cons.mpr ⟨kp_aload, ?_⟩
  refine List.forall_mem_cons.mpr ⟨kp_getr, ?_⟩
  refine List.forall_mem_cons.mpr ⟨kp_aload, ?_⟩
  refine List.forall_mem_cons.mpr ⟨kp_getr, ?_⟩
  refine List.forall_mem_cons.mpr ⟨kp_aload, ?_⟩
  refine List.forall_mem_cons.mpr ⟨kp_getr, ?_⟩
  refine List.forall_mem_cons.mpr ⟨kp_callv, ?_⟩
  refine List.forall_mem_cons.mpr ⟨kp_if, ?_⟩
  refine List.forall_mem_cons.mpr ⟨kp_const, ?_⟩
  refine List.forall_mem_cons.mpr ⟨kp_iret, ?_⟩
  refine List.forall_mem_cons.mpr ⟨kp_aload, ?_⟩
  refine List.forall_mem_cons.mpr ⟨kp_getr, ?_⟩
  refine List.forall_mem_cons.mpr ⟨kp_aload, ?_⟩
  refine List.forall_mem_cons.mpr ⟨kp_getr, ?_⟩
  refine List.forall_mem_cons.mpr ⟨kp_aload, ?_⟩
  refine List.forall_mem_cons.mpr ⟨kp_getr, ?_⟩
  refine List.forall_mem_cons.mpr ⟨kp_geti, ?_⟩
  refine List.forall_mem_cons.mpr ⟨kp_callv, ?_⟩
  refine List.forall_mem_cons.mpr ⟨kp_aload, ?_⟩
  refine List.forall_mem_cons.mpr ⟨kp_getr, ?_⟩
  refine List.forall_mem_cons.mpr ⟨kp_aload, ?_⟩
  refine List.forall_mem_cons.mpr ⟨kp_getr, ?_⟩
  refine List.forall_mem_cons.mpr ⟨kp_callv, ?_⟩
  refine List.forall_mem_cons.mpr ⟨kp_aload, ?_⟩
  refine List.forall_mem_cons.mpr ⟨kp_getr, ?_⟩
  refine List.forall_mem_cons.mpr ⟨kp_aload, ?_⟩
  refine List.forall_mem_cons.mpr ⟨kp_getr, ?_⟩
  refine List.forall_mem_cons.mpr ⟨kp_callv, ?_⟩
  refine List.forall_mem_cons.mpr ⟨kp_aload, ?_⟩
  refine List.forall_mem_cons.mpr ⟨kp_getr, ?_⟩
  refine List.forall_mem_cons.mpr ⟨kp_astore, ?_⟩
  refine List.forall_mem_cons.mpr ⟨kp_aload, ?_⟩
  refine List.forall_mem_cons.mpr ⟨kp_aload, ?_⟩
  refine List.forall_mem_cons.mpr ⟨kp_getr, ?_⟩
  refine List.forall_mem_cons.mpr ⟨kp_putr, ?_⟩
  refine List.forall_mem_cons.mpr ⟨kp_aload, ?_⟩
  refine List.forall_mem_cons.mpr ⟨kp_aload, ?_⟩
  refine List.forall_mem_cons.mpr ⟨kp_putr, ?_⟩
  refine List.forall_mem_cons.mpr ⟨kp_aload, ?_⟩
  refine List.forall_mem_cons.mpr ⟨kp_getr, ?_⟩
  refine List.forall_mem_cons.mpr ⟨kp_geti, ?_⟩
  refine List.forall_mem_cons.mpr ⟨kp_iret, ?_⟩
  exact List.forall_mem_nil _
theorem kqX11_candidate : ∀ q ∈ tX11_candidate, KP q.2 := by
  unfold tX11_candidate
  refine List.forall_mem_cons.mpr ⟨kp_aload, ?_⟩
  refine List.forall_mem_cons.mpr ⟨kp_getr, ?_⟩
  refine List.forall_mem_cons.mpr ⟨kp_iload, ?_⟩
  refine List.forall_mem_cons.mpr ⟨kp_callv, ?_⟩
  refine List.forall_mem_cons.mpr ⟨kp_astore, ?_⟩
  refine List.forall_mem_cons.mpr ⟨kp_aload, ?_⟩
  refine List.forall_mem_cons.mpr ⟨kp_ifnull, ?_⟩
  refine List.forall_mem_cons.mpr ⟨kp_const, ?_⟩
  refine List.forall_mem_cons.mpr ⟨kp_iret, ?_⟩
  refine List.forall_mem_cons.mpr ⟨kp_iload, ?_⟩
  refine List.forall_mem_cons.mpr ⟨kp_sw, ?_⟩
  refine List.forall_mem_cons.mpr ⟨kp_aload, ?_⟩
  refine List.forall_mem_cons.mpr ⟨kp_geti, ?_⟩
  refine List.forall_mem_cons.mpr ⟨kp_iret, ?_⟩
  refine List.forall_mem_cons.mpr ⟨kp_aload, ?_⟩
  refine List.forall_mem_cons.mpr ⟨kp_geti, ?_⟩
  refine List.forall_mem_cons.mpr ⟨kp_if, ?_⟩
  refine List.forall_mem_cons.mpr ⟨kp_const, ?_⟩
  refine List.forall_mem_cons.mpr ⟨kp_goto, ?_⟩
  refine List.forall_mem_cons.mpr ⟨kp_const, ?_⟩
  refine List.forall_mem_cons.mpr ⟨kp_iret, ?_⟩
  refine List.forall_mem_cons.mpr ⟨kp_aload, ?_⟩
  refine List.forall_mem_cons.mpr ⟨kp_geti, ?_⟩
  refine List.forall_mem_cons.mpr ⟨kp_iret, ?_⟩
  refine List.forall_mem_cons.mpr ⟨kp_aload, ?_⟩
  refine List.forall_mem_cons.mpr ⟨kp_geti, ?_⟩
  refine List.forall_mem_cons.mpr ⟨kp_iret, ?_⟩
  refine List.forall_mem_cons.mpr ⟨kp_aload, ?_⟩
  refine List.forall_mem_cons.mpr ⟨kp_geti, ?_⟩
  refine List.forall_mem_cons.mpr ⟨kp_if, ?_⟩
  refine List.forall_mem_cons.mpr ⟨kp_const, ?_⟩
  refine List.forall_mem_cons.mpr ⟨kp_goto, ?_⟩
  refine List.forall_mem_cons.mpr ⟨kp_const, ?_⟩
  refine List.forall_mem_cons.mpr ⟨kp_iret, ?_⟩
  refine List.forall_mem_cons.mpr ⟨kp_const, ?_⟩
  refine List.forall_mem_cons.mpr ⟨kp_iret, ?_⟩
  exact List.forall_mem_nil _
theorem kqX11_count : ∀ q ∈ tX11_count, KP q.2 := by
  unfold tX11_count
  refine List.forall_mem_cons.mpr ⟨kp_iload, ?_⟩
  refine List.forall_mem_cons.mpr ⟨kp_sw, ?_⟩
  refine List.forall_mem_cons.mpr ⟨kp_aload, ?_⟩
  refine List.forall_mem_cons.mpr ⟨kp_getr, ?_⟩
  refine List.forall_mem_cons.mpr ⟨kp_geti, ?_⟩
  refine List.forall_mem_cons.mpr ⟨kp_iret, ?_⟩
  refine List.forall_mem_cons.mpr ⟨kp_aload, ?_⟩
  refine List.forall_mem_cons.mpr ⟨kp_getr, ?_⟩
  refine List.forall_mem_cons.mpr ⟨kp_geti, ?_⟩
  refine List.forall_mem_cons.mpr ⟨kp_iret, ?_⟩
  refine List.forall_mem_cons.mpr ⟨kp_aload, ?_⟩
  refine List.forall_mem_cons.mpr ⟨kp_getr, ?_⟩
  refine List.forall_mem_cons.mpr ⟨kp_geti, ?_⟩
  refine List.forall_mem_cons.mpr ⟨kp_iret, ?_⟩
  refine List.forall_mem_cons.mpr ⟨kp_aload, ?_⟩
  refine List.forall_mem_cons.mpr ⟨kp_getr, ?_⟩
  refine List.forall_mem_cons.mpr ⟨kp_geti, ?_⟩
  refine List.forall_mem_cons.mpr ⟨kp_iret, ?_⟩
  refine List.forall_mem_cons.mpr ⟨kp_aload, ?_⟩
  refine List.forall_mem_cons.mpr ⟨kp_getr, ?_⟩
  refine List.forall_mem_cons.mpr ⟨kp_geti, ?_⟩
  refine List.forall_mem_cons.mpr ⟨kp_iret, ?_⟩
  refine List.forall_mem_cons.mpr ⟨kp_aload, ?_⟩
  refine List.forall_mem_cons.mpr ⟨kp_getr, ?_⟩
  refine List.forall_mem_cons.mpr ⟨kp_geti, ?_⟩
  refine List.forall_mem_cons.mpr ⟨kp_iret, ?_⟩
  refine List.forall_mem_cons.mpr ⟨kp_aload, ?_⟩
  refine List.forall_mem_cons.mpr ⟨kp_getr, ?_⟩
  refine List.forall_mem_cons.mpr ⟨kp_geti, ?_⟩
  refine List.forall_mem_cons.mpr ⟨kp_const, ?_⟩
  refine List.forall_mem_cons.mpr ⟨kp_icmp, ?_⟩
  refine List.forall_mem_cons.mpr ⟨kp_const, ?_⟩
  refine List.forall_mem_cons.mpr ⟨kp_goto, ?_⟩
  refine List.forall_mem_cons.mpr ⟨kp_aload, ?_⟩
  refine List.forall_mem_cons.mpr ⟨kp_iload, ?_⟩
  refine List.forall_mem_cons.mpr ⟨kp_callv, ?_⟩
  refine List.forall_mem_cons.mpr ⟨kp_iret, ?_⟩
  exact List.forall_mem_nil _
theorem kqX11_countInPlan : ∀ q ∈ tX11_countInPlan, KP q.2 := by
  unfold tX11_countInPlan
  refine List.forall_mem_cons.mpr ⟨kp_iload, ?_⟩
  refine List.forall_mem_cons.mpr ⟨kp_sw, ?_⟩
  refine List.forall_mem_cons.mpr ⟨kp_aload, ?_⟩
  refine List.forall_mem_cons.mpr ⟨kp_getr, ?_⟩
  refine List.forall_mem_cons.mpr ⟨kp_geti, ?_⟩
  refine List.forall_mem_cons.mpr ⟨kp_iret, ?_⟩
  refine List.forall_mem_cons.mpr ⟨kp_aload, ?_⟩
  refine List.forall_mem_cons.mpr ⟨kp_getr, ?_⟩
  refine List.forall_mem_cons.mpr ⟨kp_geti, ?_⟩
  refine List.forall_mem_cons.mpr ⟨kp_iret, ?_⟩
  refine List.forall_mem_cons.mpr ⟨kp_aload, ?_⟩
  refine List.forall_mem_cons.mpr ⟨kp_getr, ?_⟩
  refine List.forall_mem_cons.mpr ⟨kp_geti, ?_⟩
  refine List.forall_mem_cons.mpr ⟨kp_iret, ?_⟩
  refine List.forall_mem_cons.mpr ⟨kp_aload, ?_⟩
  refine List.forall_mem_cons.mpr ⟨kp_getr, ?_⟩
  refine List.forall_mem_cons.mpr ⟨kp_geti, ?_⟩
  refine List.forall_mem_cons.mpr ⟨kp_iret, ?_⟩
  refine List.forall_mem_cons.mpr ⟨kp_const, ?_⟩
  refine List.forall_mem_cons.mpr ⟨kp_iret, ?_⟩
  exact List.forall_mem_nil _
theorem kqX11_findShowing : ∀ q ∈ tX11_findShowing, KP q.2 := by
  unfold tX11_findShowing
  refine List.forall_mem_cons.mpr ⟨kp_aload, ?_⟩
  refine List.forall_mem_cons.mpr ⟨kp_getr, ?_⟩
  refine List.forall_mem_cons.mpr ⟨kp_iload, ?_⟩
  refine List.forall_mem_cons.mpr ⟨kp_callv, ?_⟩
  refine List.forall_mem_cons.mpr ⟨kp_if, ?_⟩
  refine List.forall_mem_cons.mpr ⟨kp_const, ?_⟩
  refine List.forall_mem_cons.mpr ⟨kp_aret, ?_⟩
  refine List.forall_mem_cons.mpr ⟨kp_aload, ?_⟩
  refine List.forall_mem_cons.mpr ⟨kp_getr, ?_⟩
  refine List.forall_mem_cons.mpr ⟨kp_aload, ?_⟩
  refine List.forall_mem_cons.mpr ⟨kp_getr, ?_⟩
  refine List.forall_mem_cons.mpr ⟨kp_iload, ?_⟩
  refine List.forall_mem_cons.mpr ⟨kp_callv, ?_⟩
  refine List.forall_mem_cons.mpr ⟨kp_aload, ?_⟩
  refine List.forall_mem_cons.mpr ⟨kp_getr, ?_⟩
  refine List.forall_mem_cons.mpr ⟨kp_iload, ?_⟩
  refine List.forall_mem_cons.mpr ⟨kp_callv, ?_⟩
  refine List.forall_mem_cons.mpr ⟨kp_aret, ?_⟩
  exact List.forall_mem_nil _
theorem kqX12_init : ∀ q ∈ tX12_init, KP q.2 := by
  unfold tX12_init
  refine List.forall_mem_cons.mpr ⟨kp_aload, ?_⟩
  refine List.forall_mem_cons.mpr ⟨kp_objinit, ?_⟩
  refine List.forall_mem_cons.mpr ⟨kp_aload, ?_⟩
  refine List.forall_mem_cons.mpr ⟨kp_const, ?_⟩
  refine List.forall_mem_cons.mpr ⟨kp_newa, ?_⟩
  refine List.forall_mem_cons.mpr ⟨kp_putr, ?_⟩
  refine List.forall_mem_cons.mpr ⟨kp_aload, ?_⟩
  refine List.forall_mem_cons.mpr ⟨kp_const, ?_⟩
  refine List.forall_mem_cons.mpr ⟨kp_newa, ?_⟩
  refine List.forall_mem_cons.mpr ⟨kp_putr, ?_⟩
  refine List.forall_mem_cons.mpr ⟨kp_aload, ?_⟩
  refine List.forall_mem_cons.mpr ⟨kp_const, ?_⟩
  refine List.forall_mem_cons.mpr ⟨kp_newa, ?_⟩
  refine List.forall_mem_cons.mpr ⟨kp_putr, ?_⟩
  refine List.forall_mem_cons.mpr ⟨kp_aload, ?_⟩
  refine List.forall_mem_cons.mpr ⟨kp_const, ?_⟩
  refine List.forall_mem_cons.mpr ⟨kp_newa, ?_⟩
  refine List.forall_mem_cons.mpr ⟨kp_putr, ?_⟩
  refine List.forall_mem_cons.mpr ⟨kp_aload, ?_⟩
  refine List.forall_mem_cons.mpr ⟨kp_const, ?_⟩
  refine List.forall_mem_cons.mpr ⟨kp_newa, ?_⟩
  refine List.forall_mem_cons.mpr ⟨kp_putr, ?_⟩
  refine List.forall_mem_cons.mpr ⟨kp_aload, ?_⟩
  refine List.forall_mem_cons.mpr ⟨kp_const, ?_⟩
  refine List.forall_mem_cons.mpr ⟨kp_newa, ?_⟩
  refine List.forall_mem_cons.mpr ⟨kp_putr, ?_⟩
  refine List.forall_mem_cons.mpr ⟨kp_aload, ?_⟩
  refine List.forall_mem_cons.mpr ⟨kp_const, ?_⟩
  refine List.forall_mem_cons.mpr ⟨kp_newa, ?_⟩
  refine List.forall_mem_cons.mpr ⟨kp_putr, ?_⟩
  refine List.forall_mem_cons.mpr ⟨kp_aload, ?_⟩
  refine List.forall_mem_cons.mpr ⟨kp_const, ?_⟩
  refine List.forall_mem_cons.mpr ⟨kp_puti, ?_⟩
  refine List.forall_mem_cons.mpr ⟨kp_aload, ?_⟩
  refine List.forall_mem_cons.mpr ⟨kp_const, ?_⟩
  refine List.forall_mem_cons.mpr ⟨kp_newa, ?_⟩
  refine List.forall_mem_cons.mpr ⟨kp_putr, ?_⟩
  refine List.forall_mem_cons.mpr ⟨kp_aload, ?_⟩
  refine List.forall_mem_cons.mpr ⟨kp_const, ?_⟩
  refine List.forall_mem_cons.mpr ⟨kp_newa, ?_⟩
  refine List.forall_mem_cons.mpr ⟨kp_putr, ?_⟩
  refine List.forall_mem_cons.mpr ⟨kp_aload, ?_⟩
  refine List.forall_mem_cons.mpr ⟨kp_const, ?_⟩
  refine List.forall_mem_cons.mpr ⟨kp_newa, ?_⟩
  refine List.forall_mem_cons.mpr ⟨kp_putr, ?_⟩
  refine List.forall_mem_cons.mpr ⟨kp_aload, ?_⟩
  refine List.forall_mem_cons.mpr ⟨kp_const, ?_⟩
  refine List.forall_mem_cons.mpr ⟨kp_newa, ?_⟩
  refine List.forall_mem_cons.mpr ⟨kp_putr, ?_⟩
  refine List.forall_mem_cons.mpr ⟨kp_aload, ?_⟩
  refine List.forall_mem_cons.mpr ⟨kp_const, ?_⟩
  refine List.forall_mem_cons.mpr ⟨kp_newa, ?_⟩
  refine List.forall_mem_cons.mpr ⟨kp_putr, ?_⟩
  refine List.forall_mem_cons.mpr ⟨kp_aload, ?_⟩
  refine List.forall_mem_cons.mpr ⟨kp_const, ?_⟩
  refine List.forall_mem_cons.mpr ⟨kp_newa, ?_⟩
  refine List.forall_mem_cons.mpr ⟨kp_putr, ?_⟩
  refine List.forall_mem_cons.mpr ⟨kp_aload, ?_⟩
  refine List.forall_mem_cons.mpr ⟨kp_const, ?_⟩
  refine List.forall_mem_cons.mpr ⟨kp_newa, ?_⟩
  refine List.forall_mem_cons.mpr ⟨kp_putr, ?_⟩
  refine List.forall_mem_cons.mpr ⟨kp_aload, ?_⟩
  refine List.forall_mem_cons.mpr ⟨kp_const, ?_⟩
  refine List.forall_mem_cons.mpr ⟨kp_newa, ?_⟩
  refine List.forall_mem_cons.mpr ⟨kp_putr, ?_⟩
  refine List.forall_mem_cons.mpr ⟨kp_aload, ?_⟩
  refine List.forall_mem_cons.mpr ⟨kp_const, ?_⟩
  refine List.forall_mem_cons.mpr ⟨kp_newa, ?_⟩
  refine List.forall_mem_cons.mpr ⟨kp_putr, ?_⟩
  refine List.forall_mem_cons.mpr ⟨kp_aload, ?_⟩
  refine List.forall_mem_cons.mpr ⟨kp_const, ?_⟩
  refine List.forall_mem_cons.mpr ⟨kp_newa, ?_⟩
  refine List.forall_mem_cons.mpr ⟨kp_putr, ?_⟩
  refine List.forall_mem_cons.mpr ⟨kp_aload, ?_⟩
  refine List.forall_mem_cons.mpr ⟨kp_const, ?_⟩
  refine List.forall_mem_cons.mpr ⟨kp_newa, ?_⟩
  refine List.forall_mem_cons.mpr ⟨kp_putr, ?_⟩
  refine List.forall_mem_cons.mpr ⟨kp_aload, ?_⟩
  refine List.forall_mem_cons.mpr ⟨kp_const, ?_⟩
  refine List.forall_mem_cons.mpr ⟨kp_newa, ?_⟩
  refine List.forall_mem_cons.mpr ⟨kp_putr, ?_⟩
  refine List.forall_mem_cons.mpr ⟨kp_aload, ?_⟩
  refine List.forall_mem_cons.mpr ⟨kp_const, ?_⟩
  refine List.forall_mem_cons.mpr ⟨kp_newa, ?_⟩
  refine List.forall_mem_cons.mpr ⟨kp_putr, ?_⟩
  refine List.forall_mem_cons.mpr ⟨kp_aload, ?_⟩
  refine List.forall_mem_cons.mpr ⟨kp_const, ?_⟩
  refine List.forall_mem_cons.mpr ⟨kp_newa, ?_⟩
  refine List.forall_mem_cons.mpr ⟨kp_putr, ?_⟩
  refine List.forall_mem_cons.mpr ⟨kp_aload, ?_⟩
  refine List.forall_mem_cons.mpr ⟨kp_const, ?_⟩
  refine List.forall_mem_cons.mpr ⟨kp_newa, ?_⟩
  refine List.forall_mem_cons.mpr ⟨kp_putr, ?_⟩
  refine List.forall_mem_cons.mpr ⟨kp_aload, ?_⟩
  refine List.forall_mem_cons.mpr ⟨kp_const, ?_⟩
  refine List.forall_mem_cons.mpr ⟨kp_newa, ?_⟩
  refine List.forall_mem_cons.mpr ⟨kp_putr, ?_⟩
  refine List.forall_mem_cons.mpr ⟨kp_aload, ?_⟩
  refine List.forall_mem_cons.mpr ⟨kp_const, ?_⟩
  refine List.forall_mem_cons.mpr ⟨kp_newa, ?_⟩
  refine List.forall_mem_cons.mpr ⟨kp_putr, ?_⟩
  refine List.forall_mem_cons.mpr ⟨kp_aload, ?_⟩
  refine List.forall_mem_cons.mpr ⟨kp_const, ?_⟩
  refine List.forall_mem_cons.mpr ⟨kp_newa, ?_⟩
  refine List.forall_mem_cons.mpr ⟨kp_putr, ?_⟩
  refine List.forall_mem_cons.mpr ⟨kp_aload, ?_⟩
  refine List.forall_mem_cons.mpr ⟨kp_const, ?_⟩
  refine List.forall_mem_cons.mpr ⟨kp_newa, ?_⟩
  refine List.forall_mem_cons.mpr ⟨kp_putr, ?_⟩
  refine List.forall_mem_cons.mpr ⟨kp_aload, ?_⟩
  refine List.forall_mem_cons.mpr ⟨kp_const, ?_⟩
  refine List.forall_mem_cons.mpr ⟨kp_newa, ?_⟩
  refine List.forall_mem_cons.mpr ⟨kp_putr, ?_⟩
  refine List.forall_mem_cons.mpr ⟨kp_aload, ?_⟩
  refine List.forall_mem_cons.mpr ⟨kp_const, ?_⟩
  refine List.forall_mem_cons.mpr ⟨kp_newa, ?_⟩
  refine List.forall_mem_cons.mpr ⟨kp_putr, ?_⟩
  refine List.forall_mem_cons.mpr ⟨kp_aload, ?_⟩
  refine List.forall_mem_cons.mpr ⟨kp_const, ?_⟩
  refine List.forall_mem_cons.mpr ⟨kp_puti, ?_⟩
  refine List.forall_mem_cons.mpr ⟨kp_aload, ?_⟩
  refine List.forall_mem_cons.mpr ⟨kp_const, ?_⟩
  refine List.forall_mem_cons.mpr ⟨kp_newa, ?_⟩
  refine List.forall_mem_cons.mpr ⟨kp_putr, ?_⟩
  refine List.forall_mem_cons.mpr ⟨kp_aload, ?_⟩
  refine List.forall_mem_cons.mpr ⟨kp_const, ?_⟩
  refine List.forall_mem_cons.mpr ⟨kp_newa, ?_⟩
  refine List.forall_mem_cons.mpr ⟨kp_putr, ?_⟩
  refine List.forall_mem_cons.mpr ⟨kp_aload, ?_⟩
  refine List.forall_mem_cons.mpr ⟨kp_const, ?_⟩
  refine List.forall_mem_cons.mpr ⟨kp_newa, ?_⟩
  refine List.forall_mem_cons.mpr ⟨kp_putr, ?_⟩
  refine List.forall_mem_cons.mpr ⟨kp_aload, ?_⟩
  refine List.forall_mem_cons.mpr ⟨kp_const, ?_⟩
  refine List.forall_mem_cons.mpr ⟨kp_newa, ?_⟩
  refine List.forall_mem_cons.mpr ⟨kp_putr, ?_⟩
  refine List.forall_mem_cons.mpr ⟨kp_aload, ?_⟩
  refine List.forall_mem_cons.mpr ⟨kp_const, ?_⟩
  refine List.forall_mem_cons.mpr ⟨kp_newa, ?_⟩
  refine List.forall_mem_cons.mpr ⟨kp_putr, ?_⟩
  refine List.forall_mem_cons.mpr ⟨kp_aload, ?_⟩
  refine List.forall_mem_cons.mpr ⟨kp_const, ?_⟩
  refine List.forall_mem_cons.mpr ⟨kp_newa, ?_⟩
  refine List.forall_mem_cons.mpr ⟨kp_putr, ?_⟩
  refine List.forall_mem_cons.mpr ⟨kp_aload, ?_⟩
  refine List.forall_mem_cons.mpr ⟨kp_const, ?_⟩
  refine List.forall_mem_cons.mpr ⟨kp_newa, ?_⟩
  refine List.forall_mem_cons.mpr ⟨kp_putr, ?_⟩
  refine List.forall_mem_cons.mpr ⟨kp_aload, ?_⟩
  refine List.forall_mem_cons.mpr ⟨kp_const, ?_⟩
  refine List.forall_mem_cons.mpr ⟨kp_newa, ?_⟩
  refine List.forall_mem_cons.mpr ⟨kp_putr, ?_⟩
  refine List.forall_mem_cons.mpr ⟨kp_aload, ?_⟩
  refine List.forall_mem_cons.mpr ⟨kp_const, ?_⟩
  refine List.forall_mem_cons.mpr ⟨kp_puti, ?_⟩
  refine List.forall_mem_cons.mpr ⟨kp_aload, ?_⟩
  refine List.forall_mem_cons.mpr ⟨kp_const, ?_⟩
  refine List.forall_mem_cons.mpr ⟨kp_newa, ?_⟩
  refine List.forall_mem_cons.mpr ⟨kp_putr, ?_⟩
  refine List.forall_mem_cons.mpr ⟨kp_aload, ?_⟩
  refine List.forall_mem_cons.mpr ⟨kp_const, ?_⟩
  refine List.forall_mem_cons.mpr ⟨kp_newa, ?_⟩
  refine List.forall_mem_cons.mpr ⟨kp_putr, ?_⟩
  refine List.forall_mem_cons.mpr ⟨kp_aload, ?_⟩
  refine List.forall_mem_cons.mpr ⟨kp_const, ?_⟩
  refine List.forall_mem_cons.mpr ⟨kp_newa, ?_⟩
  refine List.forall_mem_cons.mpr ⟨kp_putr, ?_⟩
  refine List.forall_mem_cons.mpr ⟨kp_aload, ?_⟩
  refine List.forall_mem_cons.mpr ⟨kp_const, ?_⟩
  refine List.forall_mem_cons.mpr ⟨kp_newa, ?_⟩
  refine List.forall_mem_cons.mpr ⟨kp_putr, ?_⟩
  refine List.forall_mem_cons.mpr ⟨kp_aload, ?_⟩
  refine List.forall_mem_cons.mpr ⟨kp_const, ?_⟩
  refine List.forall_mem_cons.mpr ⟨kp_newa, ?_⟩
  refine List.forall_mem_cons.mpr ⟨kp_putr, ?_⟩
  refine List.forall_mem_cons.mpr ⟨kp_aload, ?_⟩
  refine List.forall_mem_cons.mpr ⟨kp_const, ?_⟩
  refine List.forall_mem_cons.mpr ⟨kp_newa, ?_⟩
  refine List.forall_mem_cons.mpr ⟨kp_putr, ?_⟩
  refine List.forall_mem_cons.mpr ⟨kp_aload, ?_⟩
  refine List.forall_mem_cons.mpr ⟨kp_const, ?_⟩
  refine List.forall_mem_cons.mpr ⟨kp_newa, ?_⟩
  refine List.forall_mem_cons.mpr ⟨kp_putr, ?_⟩
  refine List.forall_mem_cons.mpr ⟨kp_aload, ?_⟩
  refine List.forall_mem_cons.mpr ⟨kp_const, ?_⟩
  refine List.forall_mem_cons.mpr ⟨kp_newa, ?_⟩
  refine List.forall_mem_cons.mpr ⟨kp_putr, ?_⟩
  refine List.forall_mem_cons.mpr ⟨kp_aload, ?_⟩
  refine List.forall_mem_cons.mpr ⟨kp_const, ?_⟩
  refine List.forall_mem_cons.mpr ⟨kp_newa, ?_⟩
  refine List.forall_mem_cons.mpr ⟨kp_putr, ?_⟩
  refine List.forall_mem_cons.mpr ⟨kp_aload, ?_⟩
  refine List.forall_mem_cons.mpr ⟨kp_const, ?_⟩
  refine List.forall_mem_cons.mpr ⟨kp_newa, ?_⟩
  refine List.forall_mem_cons.mpr ⟨kp_putr, ?_⟩
  refine List.forall_mem_cons.mpr ⟨kp_aload, ?_⟩
  refine List.forall_mem_cons.mpr ⟨kp_const, ?_⟩
  refine List.forall_mem_cons.mpr ⟨kp_newa, ?_⟩
  refine List.forall_mem_cons.mpr ⟨kp_putr, ?_⟩
  refine List.forall_mem_cons.mpr ⟨kp_aload, ?_⟩
  refine List.forall_mem_cons.mpr ⟨kp_const, ?_⟩
  refine List.forall_mem_cons.mpr ⟨kp_newa, ?_⟩
  refine List.forall_mem_cons.mpr ⟨kp_putr, ?_⟩
  refine List.forall_mem_cons.mpr ⟨kp_aload, ?_⟩
  refine List.forall_mem_cons.mpr ⟨kp_const, ?_⟩
  refine List.forall_mem_cons.mpr ⟨kp_newa, ?_⟩
  refine List.forall_mem_cons.mpr ⟨kp_putr, ?_⟩
  refine List.forall_mem_cons.mpr ⟨kp_aload, ?_⟩
  refine List.forall_mem_cons.mpr ⟨kp_const, ?_⟩
  refine List.forall_mem_cons.mpr ⟨kp_newa, ?_⟩
  refine List.forall_mem_cons.mpr ⟨kp_putr, ?_⟩
  refine List.forall_mem_cons.mpr ⟨kp_aload, ?_⟩
  refine List.forall_mem_cons.mpr ⟨kp_const, ?_⟩
  refine List.forall_mem_cons.mpr ⟨kp_newa, ?_⟩
  refine List.forall_mem_cons.mpr ⟨kp_putr, ?_⟩
  refine List.forall_mem_cons.mpr ⟨kp_aload, ?_⟩
  refine List.forall_mem_cons.mpr ⟨kp_const, ?_⟩
  refine List.forall_mem_cons.mpr ⟨kp_newa, ?_⟩
  refine List.forall_mem_cons.mpr ⟨kp_putr, ?_⟩
  refine List.forall_mem_cons.mpr ⟨kp_aload, ?_⟩
  refine List.forall_mem_cons.mpr ⟨kp_getr, ?_⟩
  refine List.forall_mem_cons.mpr ⟨kp_const, ?_⟩
  refine List.forall_mem_cons.mpr ⟨kp_const, ?_⟩
  refine List.forall_mem_cons.mpr ⟨kp_const, ?_⟩
  refine List.forall_mem_cons.mpr ⟨kp_const, ?_⟩
  refine List.forall_mem_cons.mpr ⟨kp_const, ?_⟩
  refine List.forall_mem_cons.mpr ⟨kp_const, ?_⟩
  refine List.forall_mem_cons.mpr ⟨kp_const, ?_⟩
  refine List.forall_mem_cons.mpr ⟨kp_const, ?_⟩
  refine List.forall_mem_cons.mpr ⟨kp_call, ?_⟩
  refine List.forall_mem_cons.mpr ⟨kp_last, ?_⟩
  refine List.forall_mem_cons.mpr ⟨kp_aload, ?_⟩
  refine List.forall_mem_cons.mpr ⟨kp_getr, ?_⟩
  refine List.forall_mem_cons.mpr ⟨kp_const, ?_⟩
  refine List.forall_mem_cons.mpr ⟨kp_const, ?_⟩
  refine List.forall_mem_cons.mpr ⟨kp_const, ?_⟩
  refine List.forall_mem_cons.mpr ⟨kp_const, ?_⟩
  refine List.forall_mem_cons.mpr ⟨kp_const, ?_⟩
  refine List.forall_mem_cons.mpr ⟨kp_const, ?_⟩
  refine List.forall_mem_cons.mpr ⟨kp_const, ?_⟩
  refine List.forall_mem_cons.mpr ⟨kp_const, ?_⟩
  refine List.forall_mem_cons.mpr ⟨kp_call, ?_⟩
  refine List.forall_mem_cons.mpr ⟨kp_last, ?_⟩
  refine List.forall_mem_cons.mpr ⟨kp_aload, ?_⟩
  refine List.forall_mem_cons.mpr ⟨kp_getr, ?_⟩
  refine List.forall_mem_cons.mpr ⟨kp_const, ?_⟩
  refine List.forall_mem_cons.mpr ⟨kp_const, ?_⟩
  refine List.forall_mem_cons.mpr ⟨kp_const, ?_⟩
  refine List.forall_mem_cons.mpr ⟨kp_const, ?_⟩
  refine List.forall_mem_cons.mpr ⟨kp_const, ?_⟩
  refine List.forall_mem_cons.mpr ⟨kp_const, ?_⟩
  refine List.forall_mem_cons.mpr ⟨kp_const, ?_⟩
  refine List.forall_mem_cons.mpr ⟨kp_const, ?_⟩
  refine List.forall_mem_cons.mpr ⟨kp_call, ?_⟩
  refine List.forall_mem_cons.mpr ⟨kp_last, ?_⟩
  refine List.forall_mem_cons.mpr ⟨kp_aload, ?_⟩
  refine List.forall_mem_cons.mpr ⟨kp_getr, ?_⟩
  refine List.forall_mem_cons.mpr ⟨kp_const, ?_⟩
  refine List.forall_mem_cons.mpr ⟨kp_const, ?_⟩
  refine List.forall_mem_cons.mpr ⟨kp_const, ?_⟩
  refine List.forall_mem_cons.mpr ⟨kp_const, ?_⟩
  refine List.forall_mem_cons.mpr ⟨kp_const, ?_⟩
  refine List.forall_mem_cons.mpr ⟨kp_const, ?_⟩
  refine List.forall_mem_cons.mpr ⟨kp_const, ?_⟩
  refine List.forall_mem_cons.mpr ⟨kp_const, ?_⟩
  refine List.forall_mem_cons.mpr ⟨kp_call, ?_⟩
  refine List.forall_mem_cons.mpr ⟨kp_last, ?_⟩
  refine List.forall_mem_cons.mpr ⟨kp_aload, ?_⟩
  refine List.forall_mem_cons.mpr ⟨kp_getr, ?_⟩
  refine List.forall_mem_cons.mpr ⟨kp_const, ?_⟩
  refine List.forall_mem_cons.mpr ⟨kp_const, ?_⟩
  refine List.forall_mem_cons.mpr ⟨kp_const, ?_⟩
  refine List.forall_mem_cons.mpr ⟨kp_const, ?_⟩
  refine List.forall_mem_cons.mpr ⟨kp_const, ?_⟩
  refine List.forall_mem_cons.mpr ⟨kp_const, ?_⟩
  refine List.forall_mem_cons.mpr ⟨kp_const, ?_⟩
  refine List.forall_mem_cons.mpr ⟨kp_const, ?_⟩
  refine List.forall_mem_cons.mpr ⟨kp_call, ?_⟩
  refine List.forall_mem_cons.mpr ⟨kp_last, ?_⟩
  refine List.forall_mem_cons.mpr ⟨kp_aload, ?_⟩
  refine List.forall_mem_cons.mpr ⟨kp_getr, ?_⟩
  refine List.forall_mem_cons.mpr ⟨kp_const, ?_⟩
  refine List.forall_mem_cons.mpr ⟨kp_const, ?_⟩
  refine List.forall_mem_cons.mpr ⟨kp_const, ?_⟩
  refine List.forall_mem_cons.mpr ⟨kp_const, ?_⟩
  refine List.forall_mem_cons.mpr ⟨kp_const, ?_⟩
  refine List.forall_mem_cons.mpr ⟨kp_const, ?_⟩
  refine List.forall_mem_cons.mpr ⟨kp_const, ?_⟩
  refine List.forall_mem_cons.mpr ⟨kp_const, ?_⟩
  refine List.forall_mem_cons.mpr ⟨kp_call, ?_⟩
  refine List.forall_mem_cons.mpr ⟨kp_last, ?_⟩
  refine List.forall_mem_cons.mpr ⟨kp_aload, ?_⟩
  refine List.forall_mem_cons.mpr ⟨kp_getr, ?_⟩
  refine List.forall_mem_cons.mpr ⟨kp_const, ?_⟩
  refine List.forall_mem_cons.mpr ⟨kp_const, ?_⟩
  refine List.forall_mem_cons.mpr ⟨kp_const, ?_⟩
  refine List.forall_mem_cons.mpr ⟨kp_const, ?_⟩
  refine List.forall_mem_cons.mpr ⟨kp_const, ?_⟩
  refine List.forall_mem_cons.mpr ⟨kp_const, ?_⟩
  refine List.forall_mem_cons.mpr ⟨kp_const, ?_⟩
  refine List.forall_mem_cons.mpr ⟨kp_const, ?_⟩
  refine List.forall_mem_cons.mpr ⟨kp_call, ?_⟩
  refine List.forall_mem_cons.mpr ⟨kp_last, ?_⟩
  refine List.forall_mem_cons.mpr ⟨kp_aload, ?_⟩
  refine List.forall_mem_cons.mpr ⟨kp_getr, ?_⟩
  refine List.forall_mem_cons.mpr ⟨kp_const, ?_⟩
  refine List.forall_mem_cons.mpr ⟨kp_const, ?_⟩
  refine List.forall_mem_cons.mpr ⟨kp_const, ?_⟩
  refine List.forall_mem_cons.mpr ⟨kp_const, ?_⟩
  refine List.forall_mem_cons.mpr ⟨kp_const, ?_⟩
  refine List.forall_mem_cons.mpr ⟨kp_const, ?_⟩
  refine List.forall_mem_cons.mpr ⟨kp_const, ?_⟩
  refine List.forall_mem_cons.mpr ⟨kp_const, ?_⟩
  refine List.forall_mem_cons.mpr ⟨kp_call, ?_⟩
  refine List.forall_mem_cons.mpr ⟨kp_last, ?_⟩
  refine List.forall_mem_cons.mpr ⟨kp_aload, ?_⟩
  refine List.forall_mem_cons.mpr ⟨kp_getr, ?_⟩
  refine List.forall_mem_cons.mpr ⟨kp_const, ?_⟩
  refine List.forall_mem_cons.mpr ⟨kp_const, ?_⟩
  refine List.forall_mem_cons.mpr ⟨kp_const, ?_⟩
  refine List.forall_mem_cons.mpr ⟨kp_const, ?_⟩
  refine List.forall_mem_cons.mpr ⟨kp_const, ?_⟩
  refine List.forall_mem_cons.mpr ⟨kp_const, ?_⟩
  refine List.forall_mem_cons.mpr ⟨kp_const, ?_⟩
  refine List.forall_mem_cons.mpr ⟨kp_const, ?_⟩
  refine List.forall_mem_cons.mpr ⟨kp_call, ?_⟩
  refine List.forall_mem_cons.mpr ⟨kp_last, ?_⟩
  refine List.forall_mem_cons.mpr ⟨kp_aload, ?_⟩
  refine List.forall_mem_cons.mpr ⟨kp_getr, ?_⟩
  refine List.forall_mem_cons.mpr ⟨kp_const, ?_⟩
  refine List.forall_mem_cons.mpr ⟨kp_const, ?_⟩
  refine List.forall_mem_cons.mpr ⟨kp_const, ?_⟩
  refine List.forall_mem_cons.mpr ⟨kp_const, ?_⟩
  refine List.forall_mem_cons.mpr ⟨kp_const, ?_⟩
  refine List.forall_mem_cons.mpr ⟨kp_const, ?_⟩
  refine List.forall_mem_cons.mpr ⟨kp_const, ?_⟩
  refine List.forall_mem_cons.mpr ⟨kp_const, ?_⟩
  refine List.forall_mem_cons.mpr ⟨kp_call, ?_⟩
  refine List.forall_mem_cons.mpr ⟨kp_last, ?_⟩
  refine List.forall_mem_cons.mpr ⟨kp_aload, ?_⟩
  refine List.forall_mem_cons.mpr ⟨kp_getr, ?_⟩
  refine List.forall_mem_cons.mpr ⟨kp_const, ?_⟩
  refine List.forall_mem_cons.mpr ⟨kp_const, ?_⟩
  refine List.forall_mem_cons.mpr ⟨kp_const, ?_⟩
  refine List.forall_mem_cons.mpr ⟨kp_const, ?_⟩
  refine List.forall_mem_cons.mpr ⟨kp_const, ?_⟩
  refine List.forall_mem_cons.mpr ⟨kp_const, ?_⟩
  refine List.forall_mem_cons.mpr ⟨kp_const, ?_⟩
  refine List.forall_mem_cons.mpr ⟨kp_const, ?_⟩
  refine List.forall_mem_cons.mpr ⟨kp_call, ?_⟩
  refine List.forall_mem_cons.mpr ⟨kp_last, ?_⟩
  refine List.forall_mem_cons.mpr ⟨kp_aload, ?_⟩
  refine List.forall_mem_cons.mpr ⟨kp_getr, ?_⟩
  refine List.forall_mem_cons.mpr ⟨kp_const, ?_⟩
  refine List.forall_mem_cons.mpr ⟨kp_const, ?_⟩
  refine List.forall_mem_cons.mpr ⟨kp_const, ?_⟩
  refine List.forall_mem_cons.mpr ⟨kp_const, ?_⟩
  refine List.forall_mem_cons.mpr ⟨kp_const, ?_⟩
  refine List.forall_mem_cons.mpr ⟨kp_const, ?_⟩
  refine List.forall_mem_cons.mpr ⟨kp_const, ?_⟩
  refine List.forall_mem_cons.mpr ⟨kp_const, ?_⟩
  refine List.forall_mem_cons.mpr ⟨kp_call, ?_⟩
  refine List.forall_mem_cons.mpr ⟨kp_last, ?_⟩
  refine List.forall_mem_cons.mpr ⟨kp_aload, ?_⟩
  refine List.forall_mem_cons.mpr ⟨kp_getr, ?_⟩
  refine List.forall_mem_cons.mpr ⟨kp_const, ?_⟩
  refine List.forall_mem_cons.mpr ⟨kp_const, ?_⟩
  refine List.forall_mem_cons.mpr ⟨kp_const, ?_⟩
  refine List.forall_mem_cons.mpr ⟨kp_const, ?_⟩
  refine List.forall_mem_cons.mpr ⟨kp_const, ?_⟩
  refine List.forall_mem_cons.mpr ⟨kp_const, ?_⟩
  refine List.forall_mem_cons.mpr ⟨kp_const, ?_⟩
  refine List.forall_mem_cons.mpr ⟨kp_const, ?_⟩
  refine List.forall_mem_cons.mpr ⟨kp_call, ?_⟩
  refine List.forall_mem_cons.mpr ⟨kp_last, ?_⟩
  refine List.forall_mem_cons.mpr ⟨kp_aload, ?_⟩
  refine List.forall_mem_cons.mpr ⟨kp_getr, ?_⟩
  refine List.forall_mem_cons.mpr ⟨kp_const, ?_⟩
  refine List.forall_mem_cons.mpr ⟨kp_const, ?_⟩
  refine List.forall_mem_cons.mpr ⟨kp_const, ?_⟩
  refine List.forall_mem_cons.mpr ⟨kp_const, ?_⟩
  refine List.forall_mem_cons.mpr ⟨kp_const, ?_⟩
  refine List.forall_mem_cons.mpr ⟨kp_const, ?_⟩
  refine List.forall_mem_cons.mpr ⟨kp_const, ?_⟩
  refine List.forall_mem_cons.mpr ⟨kp_const, ?_⟩
  refine List.forall_mem_cons.mpr ⟨kp_call, ?_⟩
  refine List.forall_mem_cons.mpr ⟨kp_last, ?_⟩
  refine List.forall_mem_cons.mpr ⟨kp_aload, ?_⟩
  refine List.forall_mem_cons.mpr ⟨kp_const, ?_⟩
  refine List.forall_mem_cons.mpr ⟨kp_puti, ?_⟩
  refine List.forall_mem_cons.mpr ⟨kp_aload, ?_⟩
  refine List.forall_mem_cons.mpr ⟨kp_const, ?_⟩
  refine List.forall_mem_cons.mpr ⟨kp_puti, ?_⟩
  refine List.forall_mem_cons.mpr ⟨kp_aload, ?_⟩
  refine List.forall_mem_cons.mpr ⟨kp_const, ?_⟩
  refine List.forall_mem_cons.mpr ⟨kp_puti, ?_⟩
  refine List.forall_mem_cons.mpr ⟨kp_vret, ?_⟩
  exact List.forall_mem_nil _
theorem kqX12_feed : ∀ q ∈ tX12_feed, KP q.2 := by
  unfold tX12_feed
  refine List.forall_mem_cons.mpr ⟨kp_aload, ?_⟩
  refine List.forall_mem_cons.mpr ⟨kp_geti, ?_⟩
  refine List.forall_mem_cons.mpr ⟨kp_const, ?_⟩
  refine List.forall_mem_cons.mpr ⟨kp_bin (f := fun x y => x + y), ?_⟩
  refine List.forall_mem_cons.mpr ⟨kp_const, ?_⟩
  refine List.forall_mem_cons.mpr ⟨kp_icmp, ?_⟩
  refine List.forall_mem_cons.mpr ⟨kp_const, ?_⟩
  refine List.forall_mem_cons.mpr ⟨kp_iret, ?_⟩
  refine List.forall_mem_cons.mpr ⟨kp_aload, ?_⟩
  refine List.forall_mem_cons.mpr ⟨kp_iload, ?_⟩
  refine List.forall_mem_cons.mpr ⟨kp_callv, ?_⟩
  refine List.forall_mem_cons.mpr ⟨kp_aload, ?_⟩
  refine List.forall_mem_cons.mpr ⟨kp_iload, ?_⟩
  refine List.forall_mem_cons.mpr ⟨kp_callv, ?_⟩
  refine List.forall_mem_cons.mpr ⟨kp_aload, ?_⟩
  refine List.forall_mem_cons.mpr ⟨kp_iload, ?_⟩
  refine List.forall_mem_cons.mpr ⟨kp_callv, ?_⟩
  refine List.forall_mem_cons.mpr ⟨kp_aload, ?_⟩
  refine List.forall_mem_cons.mpr ⟨kp_iload, ?_⟩
  refine List.forall_mem_cons.mpr ⟨kp_callv, ?_⟩
  refine List.forall_mem_cons.mpr ⟨kp_aload, ?_⟩
  refine List.forall_mem_cons.mpr ⟨kp_iload, ?_⟩
  refine List.forall_mem_cons.mpr ⟨kp_callv, ?_⟩
  refine List.forall_mem_cons.mpr ⟨kp_aload, ?_⟩
  refine List.forall_mem_cons.mpr ⟨kp_geti, ?_⟩
  refine List.forall_mem_cons.mpr ⟨kp_iret, ?_⟩
  exact List.forall_mem_nil _
theorem kqX12_put : ∀ q ∈ tX12_put, KP q.2 := by
  unfold tX12_put
  refine List.forall_mem_cons.mpr ⟨kp_const, ?_⟩
  refine List.forall_mem_cons.mpr ⟨kp_istore, ?_⟩
  refine List.forall_mem_cons.mpr ⟨kp_iload, ?_⟩
  refine List.forall_mem_cons.mpr ⟨kp_if, ?_⟩
  refine List.forall_mem_cons.mpr ⟨kp_aload, ?_⟩
  refine List.forall_mem_cons.mpr ⟨kp_getr, ?_⟩
  refine List.forall_mem_cons.mpr ⟨kp_aload, ?_⟩
  refine List.forall_mem_cons.mpr ⟨kp_geti, ?_⟩
  refine List.forall_mem_cons.mpr ⟨kp_iload, ?_⟩
  refine List.forall_mem_cons.mpr ⟨kp_iload, ?_⟩
  refine List.forall_mem_cons.mpr ⟨kp_bin (f := fun x y => x >>> (y &&& 31)), ?_⟩
  refine List.forall_mem_cons.mpr ⟨kp_un, ?_⟩
  refine List.forall_mem_cons.mpr ⟨kp_bast, ?_⟩
  refine List.forall_mem_cons.mpr ⟨kp_aload, ?_⟩
  refine List.forall_mem_cons.mpr ⟨kp_dup, ?_⟩
  refine List.forall_mem_cons.mpr ⟨kp_geti, ?_⟩
  refine List.forall_mem_cons.mpr ⟨kp_const, ?_⟩
  refine List.forall_mem_cons.mpr ⟨kp_bin (f := fun x y => x + y), ?_⟩
  refine List.forall_mem_cons.mpr ⟨kp_puti, ?_⟩
  refine List.forall_mem_cons.mpr ⟨kp_iinc, ?_⟩
  refine List.forall_mem_cons.mpr ⟨kp_goto, ?_⟩
  refine List.forall_mem_cons.mpr ⟨kp_vret, ?_⟩
  exact List.forall_mem_nil _
theorem kqX12_back : ∀ q ∈ tX12_back, KP q.2 := by
  unfold tX12_back
  refine List.forall_mem_cons.mpr ⟨kp_iload, ?_⟩
  refine List.forall_mem_cons.mpr ⟨kp_if, ?_⟩
  refine List.forall_mem_cons.mpr ⟨kp_iload, ?_⟩
  refine List.forall_mem_cons.mpr ⟨kp_aload, ?_⟩
  refine List.forall_mem_cons.mpr ⟨kp_geti, ?_⟩
  refine List.forall_mem_cons.mpr ⟨kp_icmp, ?_⟩
  refine List.forall_mem_cons.mpr ⟨kp_const, ?_⟩
  refine List.forall_mem_cons.mpr ⟨kp_iret, ?_⟩
  refine List.forall_mem_cons.mpr ⟨kp_aload, ?_⟩
  refine List.forall_mem_cons.mpr ⟨kp_dup, ?_⟩
  refine List.forall_mem_cons.mpr ⟨kp_geti, ?_⟩
  refine List.forall_mem_cons.mpr ⟨kp_iload, ?_⟩
  refine List.forall_mem_cons.mpr ⟨kp_bin (f := fun x y => x - y), ?_⟩
  refine List.forall_mem_cons.mpr ⟨kp_puti, ?_⟩
  refine List.forall_mem_cons.mpr ⟨kp_aload, ?_⟩
  refine List.forall_mem_cons.mpr ⟨kp_geti, ?_⟩
  refine List.forall_mem_cons.mpr ⟨kp_iret, ?_⟩
  exact List.forall_mem_nil _
theorem kqX12_at : ∀ q ∈ tX12_at, KP q.2 := by
  unfold tX12_at
  refine List.forall_mem_cons.mpr ⟨kp_iload, ?_⟩
  refine List.forall_mem_cons.mpr ⟨kp_aload, ?_⟩
  refine List.forall_mem_cons.mpr ⟨kp_geti, ?_⟩
  refine List.forall_mem_cons.mpr ⟨kp_icmp, ?_⟩
  refine List.forall_mem_cons.mpr ⟨kp_aload, ?_⟩
  refine List.forall_mem_cons.mpr ⟨kp_getr, ?_⟩
  refine List.forall_mem_cons.mpr ⟨kp_iload, ?_⟩
  refine List.forall_mem_cons.mpr ⟨kp_ald, ?_⟩
  refine List.forall_mem_cons.mpr ⟨kp_const, ?_⟩
  refine List.forall_mem_cons.mpr ⟨kp_bin (f := fun x y => x &&& y), ?_⟩
  refine List.forall_mem_cons.mpr ⟨kp_goto, ?_⟩
  refine List.forall_mem_cons.mpr ⟨kp_const, ?_⟩
  refine List.forall_mem_cons.mpr ⟨kp_iret, ?_⟩
  exact List.forall_mem_nil _
theorem kqX12_isDigit : ∀ q ∈ tX12_isDigit, KP q.2 := by
  unfold tX12_isDigit
  refine List.forall_mem_cons.mpr ⟨kp_iload, ?_⟩
  refine List.forall_mem_cons.mpr ⟨kp_const, ?_⟩
  refine List.forall_mem_cons.mpr ⟨kp_icmp, ?_⟩
  refine List.forall_mem_cons.mpr ⟨kp_iload, ?_⟩
  refine List.forall_mem_cons.mpr ⟨kp_const, ?_⟩
  refine List.forall_mem_cons.mpr ⟨kp_icmp, ?_⟩
  refine List.forall_mem_cons.mpr ⟨kp_const, ?_⟩
  refine List.forall_mem_cons.mpr ⟨kp_goto, ?_⟩
  refine List.forall_mem_cons.mpr ⟨kp_const, ?_⟩
  refine List.forall_mem_cons.mpr ⟨kp_zret, ?_⟩
  exact List.forall_mem_nil _
theorem kqX12_isLetter : ∀ q ∈ tX12_isLetter, KP q.2 := by
  unfold tX12_isLetter
  refine List.forall_mem_cons.mpr ⟨kp_iload, ?_⟩
  refine List.forall_mem_cons.mpr ⟨kp_const, ?_⟩
  refine List.forall_mem_cons.mpr ⟨kp_icmp, ?_⟩
  refine List.forall_mem_cons.mpr ⟨kp_iload, ?_⟩
  refine List.forall_mem_cons.mpr ⟨kp_const, ?_⟩
  refine List.forall_mem_cons.mpr ⟨kp_icmp, ?_⟩
  refine List.forall_mem_cons.mpr ⟨kp_const, ?_⟩
  refine List.forall_mem_cons.mpr ⟨kp_goto, ?_⟩
  refine List.forall_mem_cons.mpr ⟨kp_const, ?_⟩
  refine List.forall_mem_cons.mpr ⟨kp_zret, ?_⟩
  exact List.forall_mem_nil _
theorem kqX12_more : ∀ q ∈ tX12_more, KP q.2 := by
  unfold tX12_more
  refine List.forall_mem_cons.mpr ⟨kp_iload, ?_⟩
  refine List.forall_mem_cons.mpr ⟨kp_if, ?_⟩
  refine List.forall_mem_cons.mpr ⟨kp_lload, ?_⟩
  refine List.forall_mem_cons.mpr ⟨kp_goto, ?_⟩
  refine List.forall_mem_cons.mpr ⟨kp_const, ?_⟩
  refine List.forall_mem_cons.mpr ⟨kp_lload, ?_⟩
  refine List.forall_mem_cons.mpr ⟨kp_lbin, ?_⟩
  refine List.forall_mem_cons.mpr ⟨kp_iload, ?_⟩
  refine List.forall_mem_cons.mpr ⟨kp_const, ?_⟩
  refine List.forall_mem_cons.mpr ⟨kp_bin (f := fun x y => x - y), ?_⟩
  refine List.forall_mem_cons.mpr ⟨kp_const, ?_⟩
  refine List.forall_mem_cons.mpr ⟨kp_bin (f := fun x y => x + y), ?_⟩
  refine List.forall_mem_cons.mpr ⟨kp_i2l, ?_⟩
  refine List.forall_mem_cons.mpr ⟨kp_lbin, ?_⟩
  refine List.forall_mem_cons.mpr ⟨kp_lret, ?_⟩
  exact List.forall_mem_nil _
theorem kqX12_word : ∀ q ∈ tX12_word, KP q.2 := by
  unfold tX12_word
  refine List.forall_mem_cons.mpr ⟨kp_const, ?_⟩
  refine List.forall_mem_cons.mpr ⟨kp_iload, ?_⟩
  refine List.forall_mem_cons.mpr ⟨kp_call, ?_⟩
  refine List.forall_mem_cons.mpr ⟨kp_iload, ?_⟩
  refine List.forall_mem_cons.mpr ⟨kp_call, ?_⟩
  refine List.forall_mem_cons.mpr ⟨kp_iload, ?_⟩
  refine List.forall_mem_cons.mpr ⟨kp_call, ?_⟩
  refine List.forall_mem_cons.mpr ⟨kp_iload, ?_⟩
  refine List.forall_mem_cons.mpr ⟨kp_call, ?_⟩
  refine List.forall_mem_cons.mpr ⟨kp_iload, ?_⟩
  refine List.forall_mem_cons.mpr ⟨kp_call, ?_⟩
  refine List.forall_mem_cons.mpr ⟨kp_iload, ?_⟩
  refine List.forall_mem_cons.mpr ⟨kp_call, ?_⟩
  refine List.forall_mem_cons.mpr ⟨kp_iload, ?_⟩
  refine List.forall_mem_cons.mpr ⟨kp_call, ?_⟩
  refine List.forall_mem_cons.mpr ⟨kp_lret, ?_⟩
  exact List.forall_mem_nil _
theorem kqX12_token : ∀ q ∈ tX12_token, KP q.2 := by
  unfold tX12_token
  refine List.forall_mem_cons.mpr ⟨kp_aload, ?_⟩
  refine List.forall_mem_cons.mpr ⟨kp_getr, ?_⟩
  refine List.forall_mem_cons.mpr ⟨kp_aload, ?_⟩
  refine List.forall_mem_cons.mpr ⟨kp_geti, ?_⟩
  refine List.forall_mem_cons.mpr ⟨kp_iload, ?_⟩
  refine List.forall_mem_cons.mpr ⟨kp_iast, ?_⟩
  refine List.forall_mem_cons.mpr ⟨kp_aload, ?_⟩
  refine List.forall_mem_cons.mpr ⟨kp_getr, ?_⟩
  refine List.forall_mem_cons.mpr ⟨kp_aload, ?_⟩
  refine List.forall_mem_cons.mpr ⟨kp_geti, ?_⟩
  refine List.forall_mem_cons.mpr ⟨kp_iload, ?_⟩
  refine List.forall_mem_cons.mpr ⟨kp_iast, ?_⟩
  refine List.forall_mem_cons.mpr ⟨kp_aload, ?_⟩
  refine List.forall_mem_cons.mpr ⟨kp_getr, ?_⟩
  refine List.forall_mem_cons.mpr ⟨kp_aload, ?_⟩
  refine List.forall_mem_cons.mpr ⟨kp_geti, ?_⟩
  refine List.forall_mem_cons.mpr ⟨kp_iload, ?_⟩
  refine List.forall_mem_cons.mpr ⟨kp_iast, ?_⟩
  refine List.forall_mem_cons.mpr ⟨kp_aload, ?_⟩
  refine List.forall_mem_cons.mpr ⟨kp_getr, ?_⟩
  refine List.forall_mem_cons.mpr ⟨kp_aload, ?_⟩
  refine List.forall_mem_cons.mpr ⟨kp_geti, ?_⟩
  refine List.forall_mem_cons.mpr ⟨kp_lload, ?_⟩
  refine List.forall_mem_cons.mpr ⟨kp_last, ?_⟩
  refine List.forall_mem_cons.mpr ⟨kp_aload, ?_⟩
  refine List.forall_mem_cons.mpr ⟨kp_dup, ?_⟩
  refine List.forall_mem_cons.mpr ⟨kp_geti, ?_⟩
  refine List.forall_mem_cons.mpr ⟨kp_const, ?_⟩
  refine List.forall_mem_cons.mpr ⟨kp_bin (f := fun x y => x + y), ?_⟩
  refine List.forall_mem_cons.mpr ⟨kp_puti, ?_⟩
  refine List.forall_mem_cons.mpr ⟨kp_vret, ?_⟩
  exact List.forall_mem_nil _
theorem kqX12_cut : ∀ q ∈ tX12_cut, KP q.2 := by
  unfold tX12_cut
  refine List.forall_mem_cons.mpr ⟨kp_aload, ?_⟩
  refine List.forall_mem_cons.mpr ⟨kp_const, ?_⟩
  refine List.forall_mem_cons.mpr ⟨kp_puti, ?_⟩
  refine List.forall_mem_cons.mpr ⟨kp_const, ?_⟩
  refine List.forall_mem_cons.mpr ⟨kp_istore, ?_⟩
  refine List.forall_mem_cons.mpr ⟨kp_aload, ?_⟩
  refine List.forall_mem_cons.mpr ⟨kp_geti, ?_⟩
  refine List.forall_mem_cons.mpr ⟨kp_const, ?_⟩
  refine List.forall_mem_cons.mpr ⟨kp_icmp, ?_⟩
  refine List.forall_mem_cons.mpr ⟨kp_aload, ?_⟩
  refine List.forall_mem_cons.mpr ⟨kp_iload, ?_⟩
  refine List.forall_mem_cons.mpr ⟨kp_callv, ?_⟩
  refine List.forall_mem_cons.mpr ⟨kp_istore, ?_⟩
  refine List.forall_mem_cons.mpr ⟨kp_iload, ?_⟩
  refine List.forall_mem_cons.mpr ⟨kp_aload, ?_⟩
  refine List.forall_mem_cons.mpr ⟨kp_geti, ?_⟩
  refine List.forall_mem_cons.mpr ⟨kp_icmp, ?_⟩
  refine List.forall_mem_cons.mpr ⟨kp_aload, ?_⟩
  refine List.forall_mem_cons.mpr ⟨kp_const, ?_⟩
  refine List.forall_mem_cons.mpr ⟨kp_aload, ?_⟩
  refine List.forall_mem_cons.mpr ⟨kp_geti, ?_⟩
  refine List.forall_mem_cons.mpr ⟨kp_const, ?_⟩
  refine List.forall_mem_cons.mpr ⟨kp_const, ?_⟩
  refine List.forall_mem_cons.mpr ⟨kp_callv, ?_⟩
  refine List.forall_mem_cons.mpr ⟨kp_vret, ?_⟩
  refine List.forall_mem_cons.mpr ⟨kp_iload, ?_⟩
  refine List.forall_mem_cons.mpr ⟨kp_const, ?_⟩
  refine List.forall_mem_cons.mpr ⟨kp_icmp, ?_⟩
  refine List.forall_mem_cons.mpr ⟨kp_iload, ?_⟩
  refine List.forall_mem_cons.mpr ⟨kp_const, ?_⟩
  refine List.forall_mem_cons.mpr ⟨kp_icmp, ?_⟩
  refine List.forall_mem_cons.mpr ⟨kp_iload, ?_⟩
  refine List.forall_mem_cons.mpr ⟨kp_const, ?_⟩
  refine List.forall_mem_cons.mpr ⟨kp_icmp, ?_⟩
  refine List.forall_mem_cons.mpr ⟨kp_iload, ?_⟩
  refine List.forall_mem_cons.mpr ⟨kp_const, ?_⟩
  refine List.forall_mem_cons.mpr ⟨kp_icmp, ?_⟩
  refine List.forall_mem_cons.mpr ⟨kp_iinc, ?_⟩
  refine List.forall_mem_cons.mpr ⟨kp_goto, ?_⟩
  refine List.forall_mem_cons.mpr ⟨kp_iload, ?_⟩
  refine List.forall_mem_cons.mpr ⟨kp_call, ?_⟩
  refine List.forall_mem_cons.mpr ⟨kp_if, ?_⟩
  refine List.forall_mem_cons.mpr ⟨kp_const, ?_⟩
  refine List.forall_mem_cons.mpr ⟨kp_istore, ?_⟩
  refine List.forall_mem_cons.mpr ⟨kp_const, ?_⟩
  refine List.forall_mem_cons.mpr ⟨kp_lstore, ?_⟩
  refine List.forall_mem_cons.mpr ⟨kp_aload, ?_⟩
  refine List.forall_mem_cons.mpr ⟨kp_iload, ?_⟩
  refine List.forall_mem_cons.mpr ⟨kp_iload, ?_⟩
  refine List.forall_mem_cons.mpr ⟨kp_bin (f := fun x y => x + y), ?_⟩
  refine List.forall_mem_cons.mpr ⟨kp_callv, ?_⟩
  refine List.forall_mem_cons.mpr ⟨kp_call, ?_⟩
  refine List.forall_mem_cons.mpr ⟨kp_if, ?_⟩
  refine List.forall_mem_cons.mpr ⟨kp_iload, ?_⟩
  refine List.forall_mem_cons.mpr ⟨kp_const, ?_⟩
  refine List.forall_mem_cons.mpr ⟨kp_icmp, ?_⟩
  refine List.forall_mem_cons.mpr ⟨kp_lload, ?_⟩
  refine List.forall_mem_cons.mpr ⟨kp_aload, ?_⟩
  refine List.forall_mem_cons.mpr ⟨kp_iload, ?_⟩
  refine List.forall_mem_cons.mpr ⟨kp_iload, ?_⟩
  refine List.forall_mem_cons.mpr ⟨kp_bin (f := fun x y => x + y), ?_⟩
  refine List.forall_mem_cons.mpr ⟨kp_callv, ?_⟩
  refine List.forall_mem_cons.mpr ⟨kp_call, ?_⟩
  refine List.forall_mem_cons.mpr ⟨kp_lstore, ?_⟩
  refine List.forall_mem_cons.mpr ⟨kp_iinc, ?_⟩
  refine List.forall_mem_cons.mpr ⟨kp_goto, ?_⟩
  refine List.forall_mem_cons.mpr ⟨kp_iload, ?_⟩
  refine List.forall_mem_cons.mpr ⟨kp_const, ?_⟩
  refine List.forall_mem_cons.mpr ⟨kp_icmp, ?_⟩
  refine List.forall_mem_cons.mpr ⟨kp_const, ?_⟩
  refine List.forall_mem_cons.mpr ⟨kp_goto, ?_⟩
  refine List.forall_mem_cons.mpr ⟨kp_const, ?_⟩
  refine List.forall_mem_cons.mpr ⟨kp_istore, ?_⟩
  refine List.forall_mem_cons.mpr ⟨kp_iload, ?_⟩
  refine List.forall_mem_cons.mpr ⟨kp_const, ?_⟩
  refine List.forall_mem_cons.mpr ⟨kp_icmp, ?_⟩
  refine List.forall_mem_cons.mpr ⟨kp_const, ?_⟩
  refine List.forall_mem_cons.mpr ⟨kp_istore, ?_⟩
  refine List.forall_mem_cons.mpr ⟨kp_iload, ?_⟩
  refine List.forall_mem_cons.mpr ⟨kp_const, ?_⟩
  refine List.forall_mem_cons.mpr ⟨kp_icmp, ?_⟩
  refine List.forall_mem_cons.mpr ⟨kp_aload, ?_⟩
  refine List.forall_mem_cons.mpr ⟨kp_getr, ?_⟩
  refine List.forall_mem_cons.mpr ⟨kp_iload, ?_⟩
  refine List.forall_mem_cons.mpr ⟨kp_lald, ?_⟩
  refine List.forall_mem_cons.mpr ⟨kp_lload, ?_⟩
  refine List.forall_mem_cons.mpr ⟨kp_lcmp, ?_⟩
  refine List.forall_mem_cons.mpr ⟨kp_if, ?_⟩
  refine List.forall_mem_cons.mpr ⟨kp_const, ?_⟩
  refine List.forall_mem_cons.mpr ⟨kp_iload, ?_⟩
  refine List.forall_mem_cons.mpr ⟨kp_bin (f := fun x y => x + y), ?_⟩
  refine List.forall_mem_cons.mpr ⟨kp_istore, ?_⟩
  refine List.forall_mem_cons.mpr ⟨kp_iinc, ?_⟩
  refine List.forall_mem_cons.mpr ⟨kp_goto, ?_⟩
  refine List.forall_mem_cons.mpr ⟨kp_aload, ?_⟩
  refine List.forall_mem_cons.mpr ⟨kp_iload, ?_⟩
  refine List.forall_mem_cons.mpr ⟨kp_iload, ?_⟩
  refine List.forall_mem_cons.mpr ⟨kp_const, ?_⟩
  refine List.forall_mem_cons.mpr ⟨kp_lload, ?_⟩
  refine List.forall_mem_cons.mpr ⟨kp_callv, ?_⟩
  refine List.forall_mem_cons.mpr ⟨kp_iload, ?_⟩
  refine List.forall_mem_cons.mpr ⟨kp_iload, ?_⟩
  refine List.forall_mem_cons.mpr ⟨kp_bin (f := fun x y => x + y), ?_⟩
  refine List.forall_mem_cons.mpr ⟨kp_istore, ?_⟩
  refine List.forall_mem_cons.mpr ⟨kp_goto, ?_⟩
  refine List.forall_mem_cons.mpr ⟨kp_iload, ?_⟩
  refine List.forall_mem_cons.mpr ⟨kp_call, ?_⟩
  refine List.forall_mem_cons.mpr ⟨kp_if, ?_⟩
  refine List.forall_mem_cons.mpr ⟨kp_const, ?_⟩
  refine List.forall_mem_cons.mpr ⟨kp_istore, ?_⟩
  refine List.forall_mem_cons.mpr ⟨kp_const, ?_⟩
  refine List.forall_mem_cons.mpr ⟨kp_istore, ?_⟩
  refine List.forall_mem_cons.mpr ⟨kp_aload, ?_⟩
  refine List.forall_mem_cons.mpr ⟨kp_iload, ?_⟩
  refine List.forall_mem_cons.mpr ⟨kp_iload, ?_⟩
  refine List.forall_mem_cons.mpr ⟨kp_bin (f := fun x y => x + y), ?_⟩
  refine List.forall_mem_cons.mpr ⟨kp_callv, ?_⟩
  refine List.forall_mem_cons.mpr ⟨kp_call, ?_⟩
  refine List.forall_mem_cons.mpr ⟨kp_if, ?_⟩
  refine List.forall_mem_cons.mpr ⟨kp_iload, ?_⟩
  refine List.forall_mem_cons.mpr ⟨kp_const, ?_⟩
  refine List.forall_mem_cons.mpr ⟨kp_icmp, ?_⟩
  refine List.forall_mem_cons.mpr ⟨kp_const, ?_⟩
  refine List.forall_mem_cons.mpr ⟨kp_iload, ?_⟩
  refine List.forall_mem_cons.mpr ⟨kp_bin (f := fun x y => x * y), ?_⟩
  refine List.forall_mem_cons.mpr ⟨kp_aload, ?_⟩
  refine List.forall_mem_cons.mpr ⟨kp_iload, ?_⟩
  refine List.forall_mem_cons.mpr ⟨kp_iload, ?_⟩
  refine List.forall_mem_cons.mpr ⟨kp_bin (f := fun x y => x + y), ?_⟩
  refine List.forall_mem_cons.mpr ⟨kp_callv, ?_⟩
  refine List.forall_mem_cons.mpr ⟨kp_bin (f := fun x y => x + y), ?_⟩
  refine List.forall_mem_cons.mpr ⟨kp_const, ?_⟩
  refine List.forall_mem_cons.mpr ⟨kp_bin (f := fun x y => x - y), ?_⟩
  refine List.forall_mem_cons.mpr ⟨kp_istore, ?_⟩
  refine List.forall_mem_cons.mpr ⟨kp_iinc, ?_⟩
  refine List.forall_mem_cons.mpr ⟨kp_goto, ?_⟩
  refine List.forall_mem_cons.mpr ⟨kp_aload, ?_⟩
  refine List.forall_mem_cons.mpr ⟨kp_iload, ?_⟩
  refine List.forall_mem_cons.mpr ⟨kp_const, ?_⟩
  refine List.forall_mem_cons.mpr ⟨kp_icmp, ?_⟩
  refine List.forall_mem_cons.mpr ⟨kp_const, ?_⟩
  refine List.forall_mem_cons.mpr ⟨kp_goto, ?_⟩
  refine List.forall_mem_cons.mpr ⟨kp_const, ?_⟩
  refine List.forall_mem_cons.mpr ⟨kp_iload, ?_⟩
  refine List.forall_mem_cons.mpr ⟨kp_iload, ?_⟩
  refine List.forall_mem_cons.mpr ⟨kp_const, ?_⟩
  refine List.forall_mem_cons.mpr ⟨kp_callv, ?_⟩
  refine List.forall_mem_cons.mpr ⟨kp_iload, ?_⟩
  refine List.forall_mem_cons.mpr ⟨kp_iload, ?_⟩
  refine List.forall_mem_cons.mpr ⟨kp_bin (f := fun x y => x + y), ?_⟩
  refine List.forall_mem_cons.mpr ⟨kp_istore, ?_⟩
  refine List.forall_mem_cons.mpr ⟨kp_goto, ?_⟩
  refine List.forall_mem_cons.mpr ⟨kp_iload, ?_⟩
  refine List.forall_mem_cons.mpr ⟨kp_aload, ?_⟩
  refine List.forall_mem_cons.mpr ⟨kp_iload, ?_⟩
  refine List.forall_mem_cons.mpr ⟨kp_iload, ?_⟩
  refine List.forall_mem_cons.mpr ⟨kp_aload, ?_⟩
  refine List.forall_mem_cons.mpr ⟨kp_iload, ?_⟩
  refine List.forall_mem_cons.mpr ⟨kp_const, ?_⟩
  refine List.forall_mem_cons.mpr ⟨kp_bin (f := fun x y => x + y), ?_⟩
  refine List.forall_mem_cons.mpr ⟨kp_callv, ?_⟩
  refine List.forall_mem_cons.mpr ⟨kp_callv, ?_⟩
  refine List.forall_mem_cons.mpr ⟨kp_bin (f := fun x y => x + y), ?_⟩
  refine List.forall_mem_cons.mpr ⟨kp_istore, ?_⟩
  refine List.forall_mem_cons.mpr ⟨kp_goto, ?_⟩
  refine List.forall_mem_cons.mpr ⟨kp_vret, ?_⟩
  exact List.forall_mem_nil _
theorem kqX12_sign : ∀ q ∈ tX12_sign, KP q.2 := by
  unfold tX12_sign
  refine List.forall_mem_cons.mpr ⟨kp_iload, ?_⟩
  refine List.forall_mem_cons.mpr ⟨kp_const, ?_⟩
  refine List.forall_mem_cons.mpr ⟨kp_icmp, ?_⟩
  refine List.forall_mem_cons.mpr ⟨kp_const, ?_⟩
  refine List.forall_mem_cons.mpr ⟨kp_goto, ?_⟩
  refine List.forall_mem_cons.mpr ⟨kp_iload, ?_⟩
  refine List.forall_mem_cons.mpr ⟨kp_const, ?_⟩
  refine List.forall_mem_cons.mpr ⟨kp_icmp, ?_⟩
  refine List.forall_mem_cons.mpr ⟨kp_const, ?_⟩
  refine List.forall_mem_cons.mpr ⟨kp_goto, ?_⟩
  refine List.forall_mem_cons.mpr ⟨kp_iload, ?_⟩
  refine List.forall_mem_cons.mpr ⟨kp_const, ?_⟩
  refine List.forall_mem_cons.mpr ⟨kp_icmp, ?_⟩
  refine List.forall_mem_cons.mpr ⟨kp_const, ?_⟩
  refine List.forall_mem_cons.mpr ⟨kp_goto, ?_⟩
  refine List.forall_mem_cons.mpr ⟨kp_iload, ?_⟩
  refine List.forall_mem_cons.mpr ⟨kp_const, ?_⟩
  refine List.forall_mem_cons.mpr ⟨kp_icmp, ?_⟩
  refine List.forall_mem_cons.mpr ⟨kp_const, ?_⟩
  refine List.forall_mem_cons.mpr ⟨kp_goto, ?_⟩
  refine List.forall_mem_cons.mpr ⟨kp_const, ?_⟩
  refine List.forall_mem_cons.mpr ⟨kp_istore, ?_⟩
  refine List.forall_mem_cons.mpr ⟨kp_const, ?_⟩
  refine List.forall_mem_cons.mpr ⟨kp_istore, ?_⟩
  refine List.forall_mem_cons.mpr ⟨kp_iload, ?_⟩
  refine List.forall_mem_cons.mpr ⟨kp_if, ?_⟩
  refine List.forall_mem_cons.mpr ⟨kp_iload, ?_⟩
  refine List.forall_mem_cons.mpr ⟨kp_istore, ?_⟩
  refine List.forall_mem_cons.mpr ⟨kp_goto, ?_⟩
  refine List.forall_mem_cons.mpr ⟨kp_iload, ?_⟩
  refine List.forall_mem_cons.mpr ⟨kp_const, ?_⟩
  refine List.forall_mem_cons.mpr ⟨kp_icmp, ?_⟩
  refine List.forall_mem_cons.mpr ⟨kp_const, ?_⟩
  refine List.forall_mem_cons.mpr ⟨kp_istore, ?_⟩
  refine List.forall_mem_cons.mpr ⟨kp_goto, ?_⟩
  refine List.forall_mem_cons.mpr ⟨kp_iload, ?_⟩
  refine List.forall_mem_cons.mpr ⟨kp_const, ?_⟩
  refine List.forall_mem_cons.mpr ⟨kp_icmp, ?_⟩
  refine List.forall_mem_cons.mpr ⟨kp_const, ?_⟩
  refine List.forall_mem_cons.mpr ⟨kp_istore, ?_⟩
  refine List.forall_mem_cons.mpr ⟨kp_goto, ?_⟩
  refine List.forall_mem_cons.mpr ⟨kp_iload, ?_⟩
  refine List.forall_mem_cons.mpr ⟨kp_const, ?_⟩
  refine List.forall_mem_cons.mpr ⟨kp_icmp, ?_⟩
  refine List.forall_mem_cons.mpr ⟨kp_const, ?_⟩
  refine List.forall_mem_cons.mpr ⟨kp_istore, ?_⟩
  refine List.forall_mem_cons.mpr ⟨kp_goto, ?_⟩
  refine List.forall_mem_cons.mpr ⟨kp_iload, ?_⟩
  refine List.forall_mem_cons.mpr ⟨kp_const, ?_⟩
  refine List.forall_mem_cons.mpr ⟨kp_icmp, ?_⟩
  refine List.forall_mem_cons.mpr ⟨kp_const, ?_⟩
  refine List.forall_mem_cons.mpr ⟨kp_istore, ?_⟩
  refine List.forall_mem_cons.mpr ⟨kp_goto, ?_⟩
  refine List.forall_mem_cons.mpr ⟨kp_iload, ?_⟩
  refine List.forall_mem_cons.mpr ⟨kp_const, ?_⟩
  refine List.forall_mem_cons.mpr ⟨kp_icmp, ?_⟩
  refine List.forall_mem_cons.mpr ⟨kp_const, ?_⟩
  refine List.forall_mem_cons.mpr ⟨kp_istore, ?_⟩
  refine List.forall_mem_cons.mpr ⟨kp_goto, ?_⟩
  refine List.forall_mem_cons.mpr ⟨kp_iload, ?_⟩
  refine List.forall_mem_cons.mpr ⟨kp_const, ?_⟩
  refine List.forall_mem_cons.mpr ⟨kp_icmp, ?_⟩
  refine List.forall_mem_cons.mpr ⟨kp_const, ?_⟩
  refine List.forall_mem_cons.mpr ⟨kp_istore, ?_⟩
  refine List.forall_mem_cons.mpr ⟨kp_goto, ?_⟩
  refine List.forall_mem_cons.mpr ⟨kp_iload, ?_⟩
  refine List.forall_mem_cons.mpr ⟨kp_const, ?_⟩
  refine List.forall_mem_cons.mpr ⟨kp_icmp, ?_⟩
  refine List.forall_mem_cons.mpr ⟨kp_const, ?_⟩
  refine List.forall_mem_cons.mpr ⟨kp_istore, ?_⟩
  refine List.forall_mem_cons.mpr ⟨kp_aload, ?_⟩
  refine List.forall_mem_cons.mpr ⟨kp_iload, ?_⟩
  refine List.forall_mem_cons.mpr ⟨kp_iload, ?_⟩
  refine List.forall_mem_cons.mpr ⟨kp_const, ?_⟩
  refine List.forall_mem_cons.mpr ⟨kp_const, ?_⟩
  refine List.forall_mem_cons.mpr ⟨kp_callv, ?_⟩
  refine List.forall_mem_cons.mpr ⟨kp_iload, ?_⟩
  refine List.forall_mem_cons.mpr ⟨kp_if, ?_⟩
  refine List.forall_mem_cons.mpr ⟨kp_const, ?_⟩
  refine List.forall_mem_cons.mpr ⟨kp_goto, ?_⟩
  refine List.forall_mem_cons.mpr ⟨kp_const, ?_⟩
  refine List.forall_mem_cons.mpr ⟨kp_iret, ?_⟩
  exact List.forall_mem_nil _
theorem kqX12_is : ∀ q ∈ tX12_is, KP q.2 := by
  unfold tX12_is
  refine List.forall_mem_cons.mpr ⟨kp_aload, ?_⟩
  refine List.forall_mem_cons.mpr ⟨kp_geti, ?_⟩
  refine List.forall_mem_cons.mpr ⟨kp_if, ?_⟩
  refine List.forall_mem_cons.mpr ⟨kp_aload, ?_⟩
  refine List.forall_mem_cons.mpr ⟨kp_getr, ?_⟩
  refine List.forall_mem_cons.mpr ⟨kp_aload, ?_⟩
  refine List.forall_mem_cons.mpr ⟨kp_geti, ?_⟩
  refine List.forall_mem_cons.mpr ⟨kp_ald, ?_⟩
  refine List.forall_mem_cons.mpr ⟨kp_iload, ?_⟩
  refine List.forall_mem_cons.mpr ⟨kp_icmp, ?_⟩
  refine List.forall_mem_cons.mpr ⟨kp_const, ?_⟩
  refine List.forall_mem_cons.mpr ⟨kp_goto, ?_⟩
  refine List.forall_mem_cons.mpr ⟨kp_const, ?_⟩
  refine List.forall_mem_cons.mpr ⟨kp_zret, ?_⟩
  exact List.forall_mem_nil _
theorem kqX12_fail : ∀ q ∈ tX12_fail, KP q.2 := by
  unfold tX12_fail
  refine List.forall_mem_cons.mpr ⟨kp_aload, ?_⟩
  refine List.forall_mem_cons.mpr ⟨kp_geti, ?_⟩
  refine List.forall_mem_cons.mpr ⟨kp_if, ?_⟩
  refine List.forall_mem_cons.mpr ⟨kp_vret, ?_⟩
  refine List.forall_mem_cons.mpr ⟨kp_aload, ?_⟩
  refine List.forall_mem_cons.mpr ⟨kp_iload, ?_⟩
  refine List.forall_mem_cons.mpr ⟨kp_puti, ?_⟩
  refine List.forall_mem_cons.mpr ⟨kp_aload, ?_⟩
  refine List.forall_mem_cons.mpr ⟨kp_aload, ?_⟩
  refine List.forall_mem_cons.mpr ⟨kp_getr, ?_⟩
  refine List.forall_mem_cons.mpr ⟨kp_aload, ?_⟩
  refine List.forall_mem_cons.mpr ⟨kp_geti, ?_⟩
  refine List.forall_mem_cons.mpr ⟨kp_ald, ?_⟩
  refine List.forall_mem_cons.mpr ⟨kp_puti, ?_⟩
  refine List.forall_mem_cons.mpr ⟨kp_vret, ?_⟩
  exact List.forall_mem_nil _
theorem kqX12_wrong : ∀ q ∈ tX12_wrong, KP q.2 := by
  unfold tX12_wrong
  refine List.forall_mem_cons.mpr ⟨kp_aload, ?_⟩
  refine List.forall_mem_cons.mpr ⟨kp_getr, ?_⟩
  refine List.forall_mem_cons.mpr ⟨kp_iload, ?_⟩
  refine List.forall_mem_cons.mpr ⟨kp_ald, ?_⟩
  refine List.forall_mem_cons.mpr ⟨kp_istore, ?_⟩
  refine List.forall_mem_cons.mpr ⟨kp_aload, ?_⟩
  refine List.forall_mem_cons.mpr ⟨kp_geti, ?_⟩
  refine List.forall_mem_cons.mpr ⟨kp_if, ?_⟩
  refine List.forall_mem_cons.mpr ⟨kp_aload, ?_⟩
  refine List.forall_mem_cons.mpr ⟨kp_geti, ?_⟩
  refine List.forall_mem_cons.mpr ⟨kp_if, ?_⟩
  refine List.forall_mem_cons.mpr ⟨kp_iload, ?_⟩
  refine List.forall_mem_cons.mpr ⟨kp_aload, ?_⟩
  refine List.forall_mem_cons.mpr ⟨kp_geti, ?_⟩
  refine List.forall_mem_cons.mpr ⟨kp_icmp, ?_⟩
  refine List.forall_mem_cons.mpr ⟨kp_iload, ?_⟩
  refine List.forall_mem_cons.mpr ⟨kp_aload, ?_⟩
  refine List.forall_mem_cons.mpr ⟨kp_geti, ?_⟩
  refine List.forall_mem_cons.mpr ⟨kp_icmp, ?_⟩
  refine List.forall_mem_cons.mpr ⟨kp_iload, ?_⟩
  refine List.forall_mem_cons.mpr ⟨kp_aload, ?_⟩
  refine List.forall_mem_cons.mpr ⟨kp_geti, ?_⟩
  refine List.forall_mem_cons.mpr ⟨kp_icmp, ?_⟩
  refine List.forall_mem_cons.mpr ⟨kp_vret, ?_⟩
  refine List.forall_mem_cons.mpr ⟨kp_aload, ?_⟩
  refine List.forall_mem_cons.mpr ⟨kp_iload, ?_⟩
  refine List.forall_mem_cons.mpr ⟨kp_puti, ?_⟩
  refine List.forall_mem_cons.mpr ⟨kp_aload, ?_⟩
  refine List.forall_mem_cons.mpr ⟨kp_iload, ?_⟩
  refine List.forall_mem_cons.mpr ⟨kp_puti, ?_⟩
  refine List.forall_mem_cons.mpr ⟨kp_vret, ?_⟩
  exact List.forall_mem_nil _
theorem kqX12_next : ∀ q ∈ tX12_next, KP q.2 := by
  unfold tX12_next
  refine List.forall_mem_cons.mpr ⟨kp_aload, ?_⟩
  refine List.forall_mem_cons.mpr ⟨kp_geti, ?_⟩
  refine List.forall_mem_cons.mpr ⟨kp_const, ?_⟩
  refine List.forall_mem_cons.mpr ⟨kp_icmp, ?_⟩
  refine List.forall_mem_cons.mpr ⟨kp_aload, ?_⟩
  refine List.forall_mem_cons.mpr ⟨kp_const, ?_⟩
  refine List.forall_mem_cons.mpr ⟨kp_callv, ?_⟩
  refine List.forall_mem_cons.mpr ⟨kp_goto, ?_⟩
  refine List.forall_mem_cons.mpr ⟨kp_aload, ?_⟩
  refine List.forall_mem_cons.mpr ⟨kp_dup, ?_⟩
  refine List.forall_mem_cons.mpr ⟨kp_geti, ?_⟩
  refine List.forall_mem_cons.mpr ⟨kp_const, ?_⟩
  refine List.forall_mem_cons.mpr ⟨kp_bin (f := fun x y => x + y), ?_⟩
  refine List.forall_mem_cons.mpr ⟨kp_puti, ?_⟩
  refine List.forall_mem_cons.mpr ⟨kp_vret, ?_⟩
  exact List.forall_mem_nil _
theorem kqX12_must : ∀ q ∈ tX12_must, KP q.2 := by
  unfold tX12_must
  refine List.forall_mem_cons.mpr ⟨kp_aload, ?_⟩
  refine List.forall_mem_cons.mpr ⟨kp_iload, ?_⟩
  refine List.forall_mem_cons.mpr ⟨kp_callv, ?_⟩
  refine List.forall_mem_cons.mpr ⟨kp_if, ?_⟩
  refine List.forall_mem_cons.mpr ⟨kp_aload, ?_⟩
  refine List.forall_mem_cons.mpr ⟨kp_callv, ?_⟩
  refine List.forall_mem_cons.mpr ⟨kp_goto, ?_⟩
  refine List.forall_mem_cons.mpr ⟨kp_aload, ?_⟩
  refine List.forall_mem_cons.mpr ⟨kp_const, ?_⟩
  refine List.forall_mem_cons.mpr ⟨kp_callv, ?_⟩
  refine List.forall_mem_cons.mpr ⟨kp_vret, ?_⟩
  exact List.forall_mem_nil _
theorem kqX12_read : ∀ q ∈ tX12_read, KP q.2 := by
  unfold tX12_read
  refine List.forall_mem_cons.mpr ⟨kp_aload, ?_⟩
  refine List.forall_mem_cons.mpr ⟨kp_aload, ?_⟩
  refine List.forall_mem_cons.mpr ⟨kp_geti, ?_⟩
  refine List.forall_mem_cons.mpr ⟨kp_puti, ?_⟩
  refine List.forall_mem_cons.mpr ⟨kp_const, ?_⟩
  refine List.forall_mem_cons.mpr ⟨kp_istore, ?_⟩
  refine List.forall_mem_cons.mpr ⟨kp_iload, ?_⟩
  refine List.forall_mem_cons.mpr ⟨kp_aload, ?_⟩
  refine List.forall_mem_cons.mpr ⟨kp_geti, ?_⟩
  refine List.forall_mem_cons.mpr ⟨kp_icmp, ?_⟩
  refine List.forall_mem_cons.mpr ⟨kp_aload, ?_⟩
  refine List.forall_mem_cons.mpr ⟨kp_getr, ?_⟩
  refine List.forall_mem_cons.mpr ⟨kp_iload, ?_⟩
  refine List.forall_mem_cons.mpr ⟨kp_aload, ?_⟩
  refine List.forall_mem_cons.mpr ⟨kp_getr, ?_⟩
  refine List.forall_mem_cons.mpr ⟨kp_iload, ?_⟩
  refine List.forall_mem_cons.mpr ⟨kp_ald, ?_⟩
  refine List.forall_mem_cons.mpr ⟨kp_bast, ?_⟩
  refine List.forall_mem_cons.mpr ⟨kp_iinc, ?_⟩
  refine List.forall_mem_cons.mpr ⟨kp_goto, ?_⟩
  refine List.forall_mem_cons.mpr ⟨kp_aload, ?_⟩
  refine List.forall_mem_cons.mpr ⟨kp_const, ?_⟩
  refine List.forall_mem_cons.mpr ⟨kp_puti, ?_⟩
  refine List.forall_mem_cons.mpr ⟨kp_aload, ?_⟩
  refine List.forall_mem_cons.mpr ⟨kp_callv, ?_⟩
  refine List.forall_mem_cons.mpr ⟨kp_aload, ?_⟩
  refine List.forall_mem_cons.mpr ⟨kp_const, ?_⟩
  refine List.forall_mem_cons.mpr ⟨kp_puti, ?_⟩
  refine List.forall_mem_cons.mpr ⟨kp_aload, ?_⟩
  refine List.forall_mem_cons.mpr ⟨kp_const, ?_⟩
  refine List.forall_mem_cons.mpr ⟨kp_puti, ?_⟩
  refine List.forall_mem_cons.mpr ⟨kp_aload, ?_⟩
  refine List.forall_mem_cons.mpr ⟨kp_const, ?_⟩
  refine List.forall_mem_cons.mpr ⟨kp_puti, ?_⟩
  refine List.forall_mem_cons.mpr ⟨kp_aload, ?_⟩
  refine List.forall_mem_cons.mpr ⟨kp_const, ?_⟩
  refine List.forall_mem_cons.mpr ⟨kp_puti, ?_⟩
  refine List.forall_mem_cons.mpr ⟨kp_aload, ?_⟩
  refine List.forall_mem_cons.mpr ⟨kp_const, ?_⟩
  refine List.forall_mem_cons.mpr ⟨kp_aload, ?_⟩
  refine List.forall_mem_cons.mpr ⟨kp_geti, ?_⟩
  refine List.forall_mem_cons.mpr ⟨kp_bin (f := fun x y => x - y), ?_⟩
  refine List.forall_mem_cons.mpr ⟨kp_puti, ?_⟩
  refine List.forall_mem_cons.mpr ⟨kp_aload, ?_⟩
  refine List.forall_mem_cons.mpr ⟨kp_getr, ?_⟩
  refine List.forall_mem_cons.mpr ⟨kp_aload, ?_⟩
  refine List.forall_mem_cons.mpr ⟨kp_geti, ?_⟩
  refine List.forall_mem_cons.mpr ⟨kp_const, ?_⟩
  refine List.forall_mem_cons.mpr ⟨kp_iast, ?_⟩
  refine List.forall_mem_cons.mpr ⟨kp_aload, ?_⟩
  refine List.forall_mem_cons.mpr ⟨kp_getr, ?_⟩
  refine List.forall_mem_cons.mpr ⟨kp_aload, ?_⟩
  refine List.forall_mem_cons.mpr ⟨kp_geti, ?_⟩
  refine List.forall_mem_cons.mpr ⟨kp_const, ?_⟩
  refine List.forall_mem_cons.mpr ⟨kp_iast, ?_⟩
  refine List.forall_mem_cons.mpr ⟨kp_aload, ?_⟩
  refine List.forall_mem_cons.mpr ⟨kp_const, ?_⟩
  refine List.forall_mem_cons.mpr ⟨kp_aload, ?_⟩
  refine List.forall_mem_cons.mpr ⟨kp_geti, ?_⟩
  refine List.forall_mem_cons.mpr ⟨kp_bin (f := fun x y => x * y), ?_⟩
  refine List.forall_mem_cons.mpr ⟨kp_puti, ?_⟩
  refine List.forall_mem_cons.mpr ⟨kp_aload, ?_⟩
  refine List.forall_mem_cons.mpr ⟨kp_getr, ?_⟩
  refine List.forall_mem_cons.mpr ⟨kp_const, ?_⟩
  refine List.forall_mem_cons.mpr ⟨kp_aload, ?_⟩
  refine List.forall_mem_cons.mpr ⟨kp_geti, ?_⟩
  refine List.forall_mem_cons.mpr ⟨kp_bin (f := fun x y => x * y), ?_⟩
  refine List.forall_mem_cons.mpr ⟨kp_const, ?_⟩
  refine List.forall_mem_cons.mpr ⟨kp_iast, ?_⟩
  refine List.forall_mem_cons.mpr ⟨kp_aload, ?_⟩
  refine List.forall_mem_cons.mpr ⟨kp_geti, ?_⟩
  refine List.forall_mem_cons.mpr ⟨kp_if, ?_⟩
  refine List.forall_mem_cons.mpr ⟨kp_aload, ?_⟩
  refine List.forall_mem_cons.mpr ⟨kp_const, ?_⟩
  refine List.forall_mem_cons.mpr ⟨kp_callv, ?_⟩
  refine List.forall_mem_cons.mpr ⟨kp_if, ?_⟩
  refine List.forall_mem_cons.mpr ⟨kp_aload, ?_⟩
  refine List.forall_mem_cons.mpr ⟨kp_callv, ?_⟩
  refine List.forall_mem_cons.mpr ⟨kp_goto, ?_⟩
  refine List.forall_mem_cons.mpr ⟨kp_aload, ?_⟩
  refine List.forall_mem_cons.mpr ⟨kp_aload, ?_⟩
  refine List.forall_mem_cons.mpr ⟨kp_geti, ?_⟩
  refine List.forall_mem_cons.mpr ⟨kp_if, ?_⟩
  refine List.forall_mem_cons.mpr ⟨kp_aload, ?_⟩
  refine List.forall_mem_cons.mpr ⟨kp_geti, ?_⟩
  refine List.forall_mem_cons.mpr ⟨kp_goto, ?_⟩
  refine List.forall_mem_cons.mpr ⟨kp_aload, ?_⟩
  refine List.forall_mem_cons.mpr ⟨kp_geti, ?_⟩
  refine List.forall_mem_cons.mpr ⟨kp_if, ?_⟩
  refine List.forall_mem_cons.mpr ⟨kp_aload, ?_⟩
  refine List.forall_mem_cons.mpr ⟨kp_geti, ?_⟩
  refine List.forall_mem_cons.mpr ⟨kp_goto, ?_⟩
  refine List.forall_mem_cons.mpr ⟨kp_const, ?_⟩
  refine List.forall_mem_cons.mpr ⟨kp_puti, ?_⟩
  refine List.forall_mem_cons.mpr ⟨kp_aload, ?_⟩
  refine List.forall_mem_cons.mpr ⟨kp_geti, ?_⟩
  refine List.forall_mem_cons.mpr ⟨kp_if, ?_⟩
  refine List.forall_mem_cons.mpr ⟨kp_aload, ?_⟩
  refine List.forall_mem_cons.mpr ⟨kp_geti, ?_⟩
  refine List.forall_mem_cons.mpr ⟨kp_iret, ?_⟩
  refine List.forall_mem_cons.mpr ⟨kp_aload, ?_⟩
  refine List.forall_mem_cons.mpr ⟨kp_geti, ?_⟩
  refine List.forall_mem_cons.mpr ⟨kp_if, ?_⟩
  refine List.forall_mem_cons.mpr ⟨kp_aload, ?_⟩
  refine List.forall_mem_cons.mpr ⟨kp_geti, ?_⟩
  refine List.forall_mem_cons.mpr ⟨kp_iret, ?_⟩
  refine List.forall_mem_cons.mpr ⟨kp_aload, ?_⟩
  refine List.forall_mem_cons.mpr ⟨kp_aload, ?_⟩
  refine List.forall_mem_cons.mpr ⟨kp_geti, ?_⟩
  refine List.forall_mem_cons.mpr ⟨kp_puti, ?_⟩
  refine List.forall_mem_cons.mpr ⟨kp_const, ?_⟩
  refine List.forall_mem_cons.mpr ⟨kp_iret, ?_⟩
  exact List.forall_mem_nil _
theorem kqX12_place : ∀ q ∈ tX12_place, KP q.2 := by
  unfold tX12_place
  refine List.forall_mem_cons.mpr ⟨kp_aload, ?_⟩
  refine List.forall_mem_cons.mpr ⟨kp_geti, ?_⟩
  refine List.forall_mem_cons.mpr ⟨kp_iret, ?_⟩
  exact List.forall_mem_nil _
theorem kqX12_tellRule : ∀ q ∈ tX12_tellRule, KP q.2 := by
  unfold tX12_tellRule
  refine List.forall_mem_cons.mpr ⟨kp_aload, ?_⟩
  refine List.forall_mem_cons.mpr ⟨kp_const, ?_⟩
  refine List.forall_mem_cons.mpr ⟨kp_callv, ?_⟩
  refine List.forall_mem_cons.mpr ⟨kp_if, ?_⟩
  refine List.forall_mem_cons.mpr ⟨kp_aload, ?_⟩
  refine List.forall_mem_cons.mpr ⟨kp_const, ?_⟩
  refine List.forall_mem_cons.mpr ⟨kp_callv, ?_⟩
  refine List.forall_mem_cons.mpr ⟨kp_if, ?_⟩
  refine List.forall_mem_cons.mpr ⟨kp_aload, ?_⟩
  refine List.forall_mem_cons.mpr ⟨kp_const, ?_⟩
  refine List.forall_mem_cons.mpr ⟨kp_callv, ?_⟩
  refine List.forall_mem_cons.mpr ⟨kp_goto, ?_⟩
  refine List.forall_mem_cons.mpr ⟨kp_aload, ?_⟩
  refine List.forall_mem_cons.mpr ⟨kp_getr, ?_⟩
  refine List.forall_mem_cons.mpr ⟨kp_aload, ?_⟩
  refine List.forall_mem_cons.mpr ⟨kp_geti, ?_⟩
  refine List.forall_mem_cons.mpr ⟨kp_ald, ?_⟩
  refine List.forall_mem_cons.mpr ⟨kp_const, ?_⟩
  refine List.forall_mem_cons.mpr ⟨kp_icmp, ?_⟩
  refine List.forall_mem_cons.mpr ⟨kp_aload, ?_⟩
  refine List.forall_mem_cons.mpr ⟨kp_const, ?_⟩
  refine List.forall_mem_cons.mpr ⟨kp_callv, ?_⟩
  refine List.forall_mem_cons.mpr ⟨kp_aload, ?_⟩
  refine List.forall_mem_cons.mpr ⟨kp_geti, ?_⟩
  refine List.forall_mem_cons.mpr ⟨kp_if, ?_⟩
  refine List.forall_mem_cons.mpr ⟨kp_vret, ?_⟩
  refine List.forall_mem_cons.mpr ⟨kp_const, ?_⟩
  refine List.forall_mem_cons.mpr ⟨kp_aload, ?_⟩
  refine List.forall_mem_cons.mpr ⟨kp_geti, ?_⟩
  refine List.forall_mem_cons.mpr ⟨kp_bin (f := fun x y => x * y), ?_⟩
  refine List.forall_mem_cons.mpr ⟨kp_aload, ?_⟩
  refine List.forall_mem_cons.mpr ⟨kp_getr, ?_⟩
  refine List.forall_mem_cons.mpr ⟨kp_aload, ?_⟩
  refine List.forall_mem_cons.mpr ⟨kp_geti, ?_⟩
  refine List.forall_mem_cons.mpr ⟨kp_ald, ?_⟩
  refine List.forall_mem_cons.mpr ⟨kp_bin (f := fun x y => x + y), ?_⟩
  refine List.forall_mem_cons.mpr ⟨kp_istore, ?_⟩
  refine List.forall_mem_cons.mpr ⟨kp_aload, ?_⟩
  refine List.forall_mem_cons.mpr ⟨kp_getr, ?_⟩
  refine List.forall_mem_cons.mpr ⟨kp_iload, ?_⟩
  refine List.forall_mem_cons.mpr ⟨kp_const, ?_⟩
  refine List.forall_mem_cons.mpr ⟨kp_iast, ?_⟩
  refine List.forall_mem_cons.mpr ⟨kp_aload, ?_⟩
  refine List.forall_mem_cons.mpr ⟨kp_const, ?_⟩
  refine List.forall_mem_cons.mpr ⟨kp_callv, ?_⟩
  refine List.forall_mem_cons.mpr ⟨kp_istore, ?_⟩
  refine List.forall_mem_cons.mpr ⟨kp_aload, ?_⟩
  refine List.forall_mem_cons.mpr ⟨kp_callv, ?_⟩
  refine List.forall_mem_cons.mpr ⟨kp_iload, ?_⟩
  refine List.forall_mem_cons.mpr ⟨kp_if, ?_⟩
  refine List.forall_mem_cons.mpr ⟨kp_aload, ?_⟩
  refine List.forall_mem_cons.mpr ⟨kp_geti, ?_⟩
  refine List.forall_mem_cons.mpr ⟨kp_istore, ?_⟩
  refine List.forall_mem_cons.mpr ⟨kp_aload, ?_⟩
  refine List.forall_mem_cons.mpr ⟨kp_const, ?_⟩
  refine List.forall_mem_cons.mpr ⟨kp_callv, ?_⟩
  refine List.forall_mem_cons.mpr ⟨kp_aload, ?_⟩
  refine List.forall_mem_cons.mpr ⟨kp_geti, ?_⟩
  refine List.forall_mem_cons.mpr ⟨kp_if, ?_⟩
  refine List.forall_mem_cons.mpr ⟨kp_vret, ?_⟩
  refine List.forall_mem_cons.mpr ⟨kp_aload, ?_⟩
  refine List.forall_mem_cons.mpr ⟨kp_getr, ?_⟩
  refine List.forall_mem_cons.mpr ⟨kp_iload, ?_⟩
  refine List.forall_mem_cons.mpr ⟨kp_aload, ?_⟩
  refine List.forall_mem_cons.mpr ⟨kp_getr, ?_⟩
  refine List.forall_mem_cons.mpr ⟨kp_iload, ?_⟩
  refine List.forall_mem_cons.mpr ⟨kp_ald, ?_⟩
  refine List.forall_mem_cons.mpr ⟨kp_iast, ?_⟩
  refine List.forall_mem_cons.mpr ⟨kp_aload, ?_⟩
  refine List.forall_mem_cons.mpr ⟨kp_getr, ?_⟩
  refine List.forall_mem_cons.mpr ⟨kp_iload, ?_⟩
  refine List.forall_mem_cons.mpr ⟨kp_ald, ?_⟩
  refine List.forall_mem_cons.mpr ⟨kp_const, ?_⟩
  refine List.forall_mem_cons.mpr ⟨kp_icmp, ?_⟩
  refine List.forall_mem_cons.mpr ⟨kp_aload, ?_⟩
  refine List.forall_mem_cons.mpr ⟨kp_getr, ?_⟩
  refine List.forall_mem_cons.mpr ⟨kp_iload, ?_⟩
  refine List.forall_mem_cons.mpr ⟨kp_ald, ?_⟩
  refine List.forall_mem_cons.mpr ⟨kp_const, ?_⟩
  refine List.forall_mem_cons.mpr ⟨kp_icmp, ?_⟩
  refine List.forall_mem_cons.mpr ⟨kp_aload, ?_⟩
  refine List.forall_mem_cons.mpr ⟨kp_const, ?_⟩
  refine List.forall_mem_cons.mpr ⟨kp_iload, ?_⟩
  refine List.forall_mem_cons.mpr ⟨kp_callv, ?_⟩
  refine List.forall_mem_cons.mpr ⟨kp_aload, ?_⟩
  refine List.forall_mem_cons.mpr ⟨kp_const, ?_⟩
  refine List.forall_mem_cons.mpr ⟨kp_callv, ?_⟩
  refine List.forall_mem_cons.mpr ⟨kp_const, ?_⟩
  refine List.forall_mem_cons.mpr ⟨kp_istore, ?_⟩
  refine List.forall_mem_cons.mpr ⟨kp_const, ?_⟩
  refine List.forall_mem_cons.mpr ⟨kp_istore, ?_⟩
  refine List.forall_mem_cons.mpr ⟨kp_iload, ?_⟩
  refine List.forall_mem_cons.mpr ⟨kp_if, ?_⟩
  refine List.forall_mem_cons.mpr ⟨kp_aload, ?_⟩
  refine List.forall_mem_cons.mpr ⟨kp_geti, ?_⟩
  refine List.forall_mem_cons.mpr ⟨kp_if, ?_⟩
  refine List.forall_mem_cons.mpr ⟨kp_aload, ?_⟩
  refine List.forall_mem_cons.mpr ⟨kp_iload, ?_⟩
  refine List.forall_mem_cons.mpr ⟨kp_callv, ?_⟩
  refine List.forall_mem_cons.mpr ⟨kp_aload, ?_⟩
  refine List.forall_mem_cons.mpr ⟨kp_const, ?_⟩
  refine List.forall_mem_cons.mpr ⟨kp_callv, ?_⟩
  refine List.forall_mem_cons.mpr ⟨kp_istore, ?_⟩
  refine List.forall_mem_cons.mpr ⟨kp_iload, ?_⟩
  refine List.forall_mem_cons.mpr ⟨kp_if, ?_⟩
  refine List.forall_mem_cons.mpr ⟨kp_aload, ?_⟩
  refine List.forall_mem_cons.mpr ⟨kp_const, ?_⟩
  refine List.forall_mem_cons.mpr ⟨kp_callv, ?_⟩
  refine List.forall_mem_cons.mpr ⟨kp_if, ?_⟩
  refine List.forall_mem_cons.mpr ⟨kp_const, ?_⟩
  refine List.forall_mem_cons.mpr ⟨kp_goto, ?_⟩
  refine List.forall_mem_cons.mpr ⟨kp_const, ?_⟩
  refine List.forall_mem_cons.mpr ⟨kp_istore, ?_⟩
  refine List.forall_mem_cons.mpr ⟨kp_iload, ?_⟩
  refine List.forall_mem_cons.mpr ⟨kp_if, ?_⟩
  refine List.forall_mem_cons.mpr ⟨kp_aload, ?_⟩
  refine List.forall_mem_cons.mpr ⟨kp_callv, ?_⟩
  refine List.forall_mem_cons.mpr ⟨kp_goto, ?_⟩
  refine List.forall_mem_cons.mpr ⟨kp_aload, ?_⟩
  refine List.forall_mem_cons.mpr ⟨kp_const, ?_⟩
  refine List.forall_mem_cons.mpr ⟨kp_callv, ?_⟩
  refine List.forall_mem_cons.mpr ⟨kp_aload, ?_⟩
  refine List.forall_mem_cons.mpr ⟨kp_geti, ?_⟩
  refine List.forall_mem_cons.mpr ⟨kp_if, ?_⟩
  refine List.forall_mem_cons.mpr ⟨kp_vret, ?_⟩
  refine List.forall_mem_cons.mpr ⟨kp_aload, ?_⟩
  refine List.forall_mem_cons.mpr ⟨kp_getr, ?_⟩
  refine List.forall_mem_cons.mpr ⟨kp_aload, ?_⟩
  refine List.forall_mem_cons.mpr ⟨kp_geti, ?_⟩
  refine List.forall_mem_cons.mpr ⟨kp_dup2, ?_⟩
  refine List.forall_mem_cons.mpr ⟨kp_ald, ?_⟩
  refine List.forall_mem_cons.mpr ⟨kp_const, ?_⟩
  refine List.forall_mem_cons.mpr ⟨kp_bin (f := fun x y => x + y), ?_⟩
  refine List.forall_mem_cons.mpr ⟨kp_iast, ?_⟩
  refine List.forall_mem_cons.mpr ⟨kp_aload, ?_⟩
  refine List.forall_mem_cons.mpr ⟨kp_getr, ?_⟩
  refine List.forall_mem_cons.mpr ⟨kp_const, ?_⟩
  refine List.forall_mem_cons.mpr ⟨kp_aload, ?_⟩
  refine List.forall_mem_cons.mpr ⟨kp_geti, ?_⟩
  refine List.forall_mem_cons.mpr ⟨kp_bin (f := fun x y => x * y), ?_⟩
  refine List.forall_mem_cons.mpr ⟨kp_aload, ?_⟩
  refine List.forall_mem_cons.mpr ⟨kp_getr, ?_⟩
  refine List.forall_mem_cons.mpr ⟨kp_aload, ?_⟩
  refine List.forall_mem_cons.mpr ⟨kp_geti, ?_⟩
  refine List.forall_mem_cons.mpr ⟨kp_ald, ?_⟩
  refine List.forall_mem_cons.mpr ⟨kp_bin (f := fun x y => x + y), ?_⟩
  refine List.forall_mem_cons.mpr ⟨kp_aload, ?_⟩
  refine List.forall_mem_cons.mpr ⟨kp_getr, ?_⟩
  refine List.forall_mem_cons.mpr ⟨kp_aload, ?_⟩
  refine List.forall_mem_cons.mpr ⟨kp_geti, ?_⟩
  refine List.forall_mem_cons.mpr ⟨kp_ald, ?_⟩
  refine List.forall_mem_cons.mpr ⟨kp_iast, ?_⟩
  refine List.forall_mem_cons.mpr ⟨kp_vret, ?_⟩
  exact List.forall_mem_nil _
theorem kqX12_literal : ∀ q ∈ tX12_literal, KP q.2 := by
  unfold tX12_literal
  refine List.forall_mem_cons.mpr ⟨kp_aload, ?_⟩
  refine List.forall_mem_cons.mpr ⟨kp_geti, ?_⟩
  refine List.forall_mem_cons.mpr ⟨kp_istore, ?_⟩
  refine List.forall_mem_cons.mpr ⟨kp_aload, ?_⟩
  refine List.forall_mem_cons.mpr ⟨kp_geti, ?_⟩
  refine List.forall_mem_cons.mpr ⟨kp_istore, ?_⟩
  refine List.forall_mem_cons.mpr ⟨kp_const, ?_⟩
  refine List.forall_mem_cons.mpr ⟨kp_istore, ?_⟩
  refine List.forall_mem_cons.mpr ⟨kp_aload, ?_⟩
  refine List.forall_mem_cons.mpr ⟨kp_const, ?_⟩
  refine List.forall_mem_cons.mpr ⟨kp_callv, ?_⟩
  refine List.forall_mem_cons.mpr ⟨kp_if, ?_⟩
  refine List.forall_mem_cons.mpr ⟨kp_aload, ?_⟩
  refine List.forall_mem_cons.mpr ⟨kp_const, ?_⟩
  refine List.forall_mem_cons.mpr ⟨kp_callv, ?_⟩
  refine List.forall_mem_cons.mpr ⟨kp_if, ?_⟩
  refine List.forall_mem_cons.mpr ⟨kp_aload, ?_⟩
  refine List.forall_mem_cons.mpr ⟨kp_const, ?_⟩
  refine List.forall_mem_cons.mpr ⟨kp_callv, ?_⟩
  refine List.forall_mem_cons.mpr ⟨kp_if, ?_⟩
  refine List.forall_mem_cons.mpr ⟨kp_const, ?_⟩
  refine List.forall_mem_cons.mpr ⟨kp_istore, ?_⟩
  refine List.forall_mem_cons.mpr ⟨kp_aload, ?_⟩
  refine List.forall_mem_cons.mpr ⟨kp_callv, ?_⟩
  refine List.forall_mem_cons.mpr ⟨kp_goto, ?_⟩
  refine List.forall_mem_cons.mpr ⟨kp_aload, ?_⟩
  refine List.forall_mem_cons.mpr ⟨kp_callv, ?_⟩
  refine List.forall_mem_cons.mpr ⟨kp_aload, ?_⟩
  refine List.forall_mem_cons.mpr ⟨kp_geti, ?_⟩
  refine List.forall_mem_cons.mpr ⟨kp_if, ?_⟩
  refine List.forall_mem_cons.mpr ⟨kp_const, ?_⟩
  refine List.forall_mem_cons.mpr ⟨kp_goto, ?_⟩
  refine List.forall_mem_cons.mpr ⟨kp_aload, ?_⟩
  refine List.forall_mem_cons.mpr ⟨kp_getr, ?_⟩
  refine List.forall_mem_cons.mpr ⟨kp_aload, ?_⟩
  refine List.forall_mem_cons.mpr ⟨kp_geti, ?_⟩
  refine List.forall_mem_cons.mpr ⟨kp_ald, ?_⟩
  refine List.forall_mem_cons.mpr ⟨kp_const, ?_⟩
  refine List.forall_mem_cons.mpr ⟨kp_bin (f := fun x y => x - y), ?_⟩
  refine List.forall_mem_cons.mpr ⟨kp_istore, ?_⟩
  refine List.forall_mem_cons.mpr ⟨kp_aload, ?_⟩
  refine List.forall_mem_cons.mpr ⟨kp_geti, ?_⟩
  refine List.forall_mem_cons.mpr ⟨kp_if, ?_⟩
  refine List.forall_mem_cons.mpr ⟨kp_iload, ?_⟩
  refine List.forall_mem_cons.mpr ⟨kp_if, ?_⟩
  refine List.forall_mem_cons.mpr ⟨kp_iload, ?_⟩
  refine List.forall_mem_cons.mpr ⟨kp_const, ?_⟩
  refine List.forall_mem_cons.mpr ⟨kp_icmp, ?_⟩
  refine List.forall_mem_cons.mpr ⟨kp_aload, ?_⟩
  refine List.forall_mem_cons.mpr ⟨kp_const, ?_⟩
  refine List.forall_mem_cons.mpr ⟨kp_callv, ?_⟩
  refine List.forall_mem_cons.mpr ⟨kp_aload, ?_⟩
  refine List.forall_mem_cons.mpr ⟨kp_callv, ?_⟩
  refine List.forall_mem_cons.mpr ⟨kp_aload, ?_⟩
  refine List.forall_mem_cons.mpr ⟨kp_geti, ?_⟩
  refine List.forall_mem_cons.mpr ⟨kp_istore, ?_⟩
  refine List.forall_mem_cons.mpr ⟨kp_aload, ?_⟩
  refine List.forall_mem_cons.mpr ⟨kp_callv, ?_⟩
  refine List.forall_mem_cons.mpr ⟨kp_aload, ?_⟩
  refine List.forall_mem_cons.mpr ⟨kp_geti, ?_⟩
  refine List.forall_mem_cons.mpr ⟨kp_if, ?_⟩
  refine List.forall_mem_cons.mpr ⟨kp_vret, ?_⟩
  refine List.forall_mem_cons.mpr ⟨kp_const, ?_⟩
  refine List.forall_mem_cons.mpr ⟨kp_aload, ?_⟩
  refine List.forall_mem_cons.mpr ⟨kp_geti, ?_⟩
  refine List.forall_mem_cons.mpr ⟨kp_bin (f := fun x y => x * y), ?_⟩
  refine List.forall_mem_cons.mpr ⟨kp_aload, ?_⟩
  refine List.forall_mem_cons.mpr ⟨kp_getr, ?_⟩
  refine List.forall_mem_cons.mpr ⟨kp_aload, ?_⟩
  refine List.forall_mem_cons.mpr ⟨kp_geti, ?_⟩
  refine List.forall_mem_cons.mpr ⟨kp_ald, ?_⟩
  refine List.forall_mem_cons.mpr ⟨kp_bin (f := fun x y => x + y), ?_⟩
  refine List.forall_mem_cons.mpr ⟨kp_istore, ?_⟩
  refine List.forall_mem_cons.mpr ⟨kp_aload, ?_⟩
  refine List.forall_mem_cons.mpr ⟨kp_getr, ?_⟩
  refine List.forall_mem_cons.mpr ⟨kp_iload, ?_⟩
  refine List.forall_mem_cons.mpr ⟨kp_iload, ?_⟩
  refine List.forall_mem_cons.mpr ⟨kp_iast, ?_⟩
  refine List.forall_mem_cons.mpr ⟨kp_aload, ?_⟩
  refine List.forall_mem_cons.mpr ⟨kp_getr, ?_⟩
  refine List.forall_mem_cons.mpr ⟨kp_iload, ?_⟩
  refine List.forall_mem_cons.mpr ⟨kp_iload, ?_⟩
  refine List.forall_mem_cons.mpr ⟨kp_iast, ?_⟩
  refine List.forall_mem_cons.mpr ⟨kp_aload, ?_⟩
  refine List.forall_mem_cons.mpr ⟨kp_getr, ?_⟩
  refine List.forall_mem_cons.mpr ⟨kp_iload, ?_⟩
  refine List.forall_mem_cons.mpr ⟨kp_iload, ?_⟩
  refine List.forall_mem_cons.mpr ⟨kp_iast, ?_⟩
  refine List.forall_mem_cons.mpr ⟨kp_aload, ?_⟩
  refine List.forall_mem_cons.mpr ⟨kp_getr, ?_⟩
  refine List.forall_mem_cons.mpr ⟨kp_iload, ?_⟩
  refine List.forall_mem_cons.mpr ⟨kp_aload, ?_⟩
  refine List.forall_mem_cons.mpr ⟨kp_geti, ?_⟩
  refine List.forall_mem_cons.mpr ⟨kp_iast, ?_⟩
  refine List.forall_mem_cons.mpr ⟨kp_aload, ?_⟩
  refine List.forall_mem_cons.mpr ⟨kp_getr, ?_⟩
  refine List.forall_mem_cons.mpr ⟨kp_iload, ?_⟩
  refine List.forall_mem_cons.mpr ⟨kp_iload, ?_⟩
  refine List.forall_mem_cons.mpr ⟨kp_zast, ?_⟩
  refine List.forall_mem_cons.mpr ⟨kp_aload, ?_⟩
  refine List.forall_mem_cons.mpr ⟨kp_getr, ?_⟩
  refine List.forall_mem_cons.mpr ⟨kp_aload, ?_⟩
  refine List.forall_mem_cons.mpr ⟨kp_geti, ?_⟩
  refine List.forall_mem_cons.mpr ⟨kp_dup2, ?_⟩
  refine List.forall_mem_cons.mpr ⟨kp_ald, ?_⟩
  refine List.forall_mem_cons.mpr ⟨kp_const, ?_⟩
  refine List.forall_mem_cons.mpr ⟨kp_bin (f := fun x y => x + y), ?_⟩
  refine List.forall_mem_cons.mpr ⟨kp_iast, ?_⟩
  refine List.forall_mem_cons.mpr ⟨kp_vret, ?_⟩
  exact List.forall_mem_nil _
theorem kqX12_emit : ∀ q ∈ tX12_emit, KP q.2 := by
  unfold tX12_emit
  refine List.forall_mem_cons.mpr ⟨kp_aload, ?_⟩
  refine List.forall_mem_cons.mpr ⟨kp_getr, ?_⟩
  refine List.forall_mem_cons.mpr ⟨kp_aload, ?_⟩
  refine List.forall_mem_cons.mpr ⟨kp_geti, ?_⟩
  refine List.forall_mem_cons.mpr ⟨kp_iload, ?_⟩
  refine List.forall_mem_cons.mpr ⟨kp_iast, ?_⟩
  refine List.forall_mem_cons.mpr ⟨kp_aload, ?_⟩
  refine List.forall_mem_cons.mpr ⟨kp_getr, ?_⟩
  refine List.forall_mem_cons.mpr ⟨kp_aload, ?_⟩
  refine List.forall_mem_cons.mpr ⟨kp_geti, ?_⟩
  refine List.forall_mem_cons.mpr ⟨kp_iload, ?_⟩
  refine List.forall_mem_cons.mpr ⟨kp_iast, ?_⟩
  refine List.forall_mem_cons.mpr ⟨kp_aload, ?_⟩
  refine List.forall_mem_cons.mpr ⟨kp_dup, ?_⟩
  refine List.forall_mem_cons.mpr ⟨kp_geti, ?_⟩
  refine List.forall_mem_cons.mpr ⟨kp_const, ?_⟩
  refine List.forall_mem_cons.mpr ⟨kp_bin (f := fun x y => x + y), ?_⟩
  refine List.forall_mem_cons.mpr ⟨kp_puti, ?_⟩
  refine List.forall_mem_cons.mpr ⟨kp_vret, ?_⟩
  exact List.forall_mem_nil _
theorem kqX12_comesOut : ∀ q ∈ tX12_comesOut, KP q.2 := by
  unfold tX12_comesOut
  refine List.forall_mem_cons.mpr ⟨kp_aload, ?_⟩
  refine List.forall_mem_cons.mpr ⟨kp_geti, ?_⟩
  refine List.forall_mem_cons.mpr ⟨kp_if, ?_⟩
  refine List.forall_mem_cons.mpr ⟨kp_aload, ?_⟩
  refine List.forall_mem_cons.mpr ⟨kp_getr, ?_⟩
  refine List.forall_mem_cons.mpr ⟨kp_aload, ?_⟩
  refine List.forall_mem_cons.mpr ⟨kp_geti, ?_⟩
  refine List.forall_mem_cons.mpr ⟨kp_const, ?_⟩
  refine List.forall_mem_cons.mpr ⟨kp_bin (f := fun x y => x - y), ?_⟩
  refine List.forall_mem_cons.mpr ⟨kp_ald, ?_⟩
  refine List.forall_mem_cons.mpr ⟨kp_const, ?_⟩
  refine List.forall_mem_cons.mpr ⟨kp_icmp, ?_⟩
  refine List.forall_mem_cons.mpr ⟨kp_iload, ?_⟩
  refine List.forall_mem_cons.mpr ⟨kp_if, ?_⟩
  refine List.forall_mem_cons.mpr ⟨kp_aload, ?_⟩
  refine List.forall_mem_cons.mpr ⟨kp_getr, ?_⟩
  refine List.forall_mem_cons.mpr ⟨kp_aload, ?_⟩
  refine List.forall_mem_cons.mpr ⟨kp_geti, ?_⟩
  refine List.forall_mem_cons.mpr ⟨kp_const, ?_⟩
  refine List.forall_mem_cons.mpr ⟨kp_bin (f := fun x y => x - y), ?_⟩
  refine List.forall_mem_cons.mpr ⟨kp_ald, ?_⟩
  refine List.forall_mem_cons.mpr ⟨kp_const, ?_⟩
  refine List.forall_mem_cons.mpr ⟨kp_icmp, ?_⟩
  refine List.forall_mem_cons.mpr ⟨kp_aload, ?_⟩
  refine List.forall_mem_cons.mpr ⟨kp_dup, ?_⟩
  refine List.forall_mem_cons.mpr ⟨kp_geti, ?_⟩
  refine List.forall_mem_cons.mpr ⟨kp_const, ?_⟩
  refine List.forall_mem_cons.mpr ⟨kp_bin (f := fun x y => x - y), ?_⟩
  refine List.forall_mem_cons.mpr ⟨kp_puti, ?_⟩
  refine List.forall_mem_cons.mpr ⟨kp_aload, ?_⟩
  refine List.forall_mem_cons.mpr ⟨kp_getr, ?_⟩
  refine List.forall_mem_cons.mpr ⟨kp_aload, ?_⟩
  refine List.forall_mem_cons.mpr ⟨kp_geti, ?_⟩
  refine List.forall_mem_cons.mpr ⟨kp_ald, ?_⟩
  refine List.forall_mem_cons.mpr ⟨kp_istore, ?_⟩
  refine List.forall_mem_cons.mpr ⟨kp_aload, ?_⟩
  refine List.forall_mem_cons.mpr ⟨kp_iload, ?_⟩
  refine List.forall_mem_cons.mpr ⟨kp_const, ?_⟩
  refine List.forall_mem_cons.mpr ⟨kp_icmp, ?_⟩
  refine List.forall_mem_cons.mpr ⟨kp_const, ?_⟩
  refine List.forall_mem_cons.mpr ⟨kp_goto, ?_⟩
  refine List.forall_mem_cons.mpr ⟨kp_iload, ?_⟩
  refine List.forall_mem_cons.mpr ⟨kp_const, ?_⟩
  refine List.forall_mem_cons.mpr ⟨kp_icmp, ?_⟩
  refine List.forall_mem_cons.mpr ⟨kp_const, ?_⟩
  refine List.forall_mem_cons.mpr ⟨kp_goto, ?_⟩
  refine List.forall_mem_cons.mpr ⟨kp_const, ?_⟩
  refine List.forall_mem_cons.mpr ⟨kp_const, ?_⟩
  refine List.forall_mem_cons.mpr ⟨kp_callv, ?_⟩
  refine List.forall_mem_cons.mpr ⟨kp_goto, ?_⟩
  refine List.forall_mem_cons.mpr ⟨kp_vret, ?_⟩
  exact List.forall_mem_nil _
theorem kqX12_expression : ∀ q ∈ tX12_expression, KP q.2 := by
  unfold tX12_expression
  refine List.forall_mem_cons.mpr ⟨kp_aload, ?_⟩
  refine List.forall_mem_cons.mpr ⟨kp_const, ?_⟩
  refine List.forall_mem_cons.mpr ⟨kp_puti, ?_⟩
  refine List.forall_mem_cons.mpr ⟨kp_aload, ?_⟩
  refine List.forall_mem_cons.mpr ⟨kp_geti, ?_⟩
  refine List.forall_mem_cons.mpr ⟨kp_istore, ?_⟩
  refine List.forall_mem_cons.mpr ⟨kp_const, ?_⟩
  refine List.forall_mem_cons.mpr ⟨kp_istore, ?_⟩
  refine List.forall_mem_cons.mpr ⟨kp_iload, ?_⟩
  refine List.forall_mem_cons.mpr ⟨kp_if, ?_⟩
  refine List.forall_mem_cons.mpr ⟨kp_aload, ?_⟩
  refine List.forall_mem_cons.mpr ⟨kp_geti, ?_⟩
  refine List.forall_mem_cons.mpr ⟨kp_if, ?_⟩
  refine List.forall_mem_cons.mpr ⟨kp_aload, ?_⟩
  refine List.forall_mem_cons.mpr ⟨kp_const, ?_⟩
  refine List.forall_mem_cons.mpr ⟨kp_callv, ?_⟩
  refine List.forall_mem_cons.mpr ⟨kp_if, ?_⟩
  refine List.forall_mem_cons.mpr ⟨kp_aload, ?_⟩
  refine List.forall_mem_cons.mpr ⟨kp_geti, ?_⟩
  refine List.forall_mem_cons.mpr ⟨kp_const, ?_⟩
  refine List.forall_mem_cons.mpr ⟨kp_icmp, ?_⟩
  refine List.forall_mem_cons.mpr ⟨kp_aload, ?_⟩
  refine List.forall_mem_cons.mpr ⟨kp_const, ?_⟩
  refine List.forall_mem_cons.mpr ⟨kp_callv, ?_⟩
  refine List.forall_mem_cons.mpr ⟨kp_aload, ?_⟩
  refine List.forall_mem_cons.mpr ⟨kp_geti, ?_⟩
  refine List.forall_mem_cons.mpr ⟨kp_if, ?_⟩
  refine List.forall_mem_cons.mpr ⟨kp_vret, ?_⟩
  refine List.forall_mem_cons.mpr ⟨kp_aload, ?_⟩
  refine List.forall_mem_cons.mpr ⟨kp_dup, ?_⟩
  refine List.forall_mem_cons.mpr ⟨kp_geti, ?_⟩
  refine List.forall_mem_cons.mpr ⟨kp_const, ?_⟩
  refine List.forall_mem_cons.mpr ⟨kp_bin (f := fun x y => x + y), ?_⟩
  refine List.forall_mem_cons.mpr ⟨kp_puti, ?_⟩
  refine List.forall_mem_cons.mpr ⟨kp_aload, ?_⟩
  refine List.forall_mem_cons.mpr ⟨kp_callv, ?_⟩
  refine List.forall_mem_cons.mpr ⟨kp_aload, ?_⟩
  refine List.forall_mem_cons.mpr ⟨kp_getr, ?_⟩
  refine List.forall_mem_cons.mpr ⟨kp_aload, ?_⟩
  refine List.forall_mem_cons.mpr ⟨kp_geti, ?_⟩
  refine List.forall_mem_cons.mpr ⟨kp_const, ?_⟩
  refine List.forall_mem_cons.mpr ⟨kp_iast, ?_⟩
  refine List.forall_mem_cons.mpr ⟨kp_aload, ?_⟩
  refine List.forall_mem_cons.mpr ⟨kp_dup, ?_⟩
  refine List.forall_mem_cons.mpr ⟨kp_geti, ?_⟩
  refine List.forall_mem_cons.mpr ⟨kp_const, ?_⟩
  refine List.forall_mem_cons.mpr ⟨kp_bin (f := fun x y => x + y), ?_⟩
  refine List.forall_mem_cons.mpr ⟨kp_puti, ?_⟩
  refine List.forall_mem_cons.mpr ⟨kp_goto, ?_⟩
  refine List.forall_mem_cons.mpr ⟨kp_aload, ?_⟩
  refine List.forall_mem_cons.mpr ⟨kp_geti, ?_⟩
  refine List.forall_mem_cons.mpr ⟨kp_if, ?_⟩
  refine List.forall_mem_cons.mpr ⟨kp_aload, ?_⟩
  refine List.forall_mem_cons.mpr ⟨kp_getr, ?_⟩
  refine List.forall_mem_cons.mpr ⟨kp_aload, ?_⟩
  refine List.forall_mem_cons.mpr ⟨kp_geti, ?_⟩
  refine List.forall_mem_cons.mpr ⟨kp_ald, ?_⟩
  refine List.forall_mem_cons.mpr ⟨kp_const, ?_⟩
  refine List.forall_mem_cons.mpr ⟨kp_icmp, ?_⟩
  refine List.forall_mem_cons.mpr ⟨kp_aload, ?_⟩
  refine List.forall_mem_cons.mpr ⟨kp_getr, ?_⟩
  refine List.forall_mem_cons.mpr ⟨kp_aload, ?_⟩
  refine List.forall_mem_cons.mpr ⟨kp_geti, ?_⟩
  refine List.forall_mem_cons.mpr ⟨kp_ald, ?_⟩
  refine List.forall_mem_cons.mpr ⟨kp_const, ?_⟩
  refine List.forall_mem_cons.mpr ⟨kp_icmp, ?_⟩
  refine List.forall_mem_cons.mpr ⟨kp_const, ?_⟩
  refine List.forall_mem_cons.mpr ⟨kp_goto, ?_⟩
  refine List.forall_mem_cons.mpr ⟨kp_const, ?_⟩
  refine List.forall_mem_cons.mpr ⟨kp_istore, ?_⟩
  refine List.forall_mem_cons.mpr ⟨kp_aload, ?_⟩
  refine List.forall_mem_cons.mpr ⟨kp_const, ?_⟩
  refine List.forall_mem_cons.mpr ⟨kp_callv, ?_⟩
  refine List.forall_mem_cons.mpr ⟨kp_if, ?_⟩
  refine List.forall_mem_cons.mpr ⟨kp_iload, ?_⟩
  refine List.forall_mem_cons.mpr ⟨kp_if, ?_⟩
  refine List.forall_mem_cons.mpr ⟨kp_aload, ?_⟩
  refine List.forall_mem_cons.mpr ⟨kp_const, ?_⟩
  refine List.forall_mem_cons.mpr ⟨kp_callv, ?_⟩
  refine List.forall_mem_cons.mpr ⟨kp_aload, ?_⟩
  refine List.forall_mem_cons.mpr ⟨kp_geti, ?_⟩
  refine List.forall_mem_cons.mpr ⟨kp_if, ?_⟩
  refine List.forall_mem_cons.mpr ⟨kp_vret, ?_⟩
  refine List.forall_mem_cons.mpr ⟨kp_iload, ?_⟩
  refine List.forall_mem_cons.mpr ⟨kp_if, ?_⟩
  refine List.forall_mem_cons.mpr ⟨kp_aload, ?_⟩
  refine List.forall_mem_cons.mpr ⟨kp_const, ?_⟩
  refine List.forall_mem_cons.mpr ⟨kp_aload, ?_⟩
  refine List.forall_mem_cons.mpr ⟨kp_getr, ?_⟩
  refine List.forall_mem_cons.mpr ⟨kp_aload, ?_⟩
  refine List.forall_mem_cons.mpr ⟨kp_geti, ?_⟩
  refine List.forall_mem_cons.mpr ⟨kp_ald, ?_⟩
  refine List.forall_mem_cons.mpr ⟨kp_const, ?_⟩
  refine List.forall_mem_cons.mpr ⟨kp_bin (f := fun x y => x - y), ?_⟩
  refine List.forall_mem_cons.mpr ⟨kp_callv, ?_⟩
  refine List.forall_mem_cons.mpr ⟨kp_goto, ?_⟩
  refine List.forall_mem_cons.mpr ⟨kp_aload, ?_⟩
  refine List.forall_mem_cons.mpr ⟨kp_const, ?_⟩
  refine List.forall_mem_cons.mpr ⟨kp_aload, ?_⟩
  refine List.forall_mem_cons.mpr ⟨kp_getr, ?_⟩
  refine List.forall_mem_cons.mpr ⟨kp_aload, ?_⟩
  refine List.forall_mem_cons.mpr ⟨kp_geti, ?_⟩
  refine List.forall_mem_cons.mpr ⟨kp_ald, ?_⟩
  refine List.forall_mem_cons.mpr ⟨kp_callv, ?_⟩
  refine List.forall_mem_cons.mpr ⟨kp_aload, ?_⟩
  refine List.forall_mem_cons.mpr ⟨kp_callv, ?_⟩
  refine List.forall_mem_cons.mpr ⟨kp_aload, ?_⟩
  refine List.forall_mem_cons.mpr ⟨kp_const, ?_⟩
  refine List.forall_mem_cons.mpr ⟨kp_callv, ?_⟩
  refine List.forall_mem_cons.mpr ⟨kp_if, ?_⟩
  refine List.forall_mem_cons.mpr ⟨kp_aload, ?_⟩
  refine List.forall_mem_cons.mpr ⟨kp_geti, ?_⟩
  refine List.forall_mem_cons.mpr ⟨kp_iload, ?_⟩
  refine List.forall_mem_cons.mpr ⟨kp_icmp, ?_⟩
  refine List.forall_mem_cons.mpr ⟨kp_aload, ?_⟩
  refine List.forall_mem_cons.mpr ⟨kp_const, ?_⟩
  refine List.forall_mem_cons.mpr ⟨kp_callv, ?_⟩
  refine List.forall_mem_cons.mpr ⟨kp_aload, ?_⟩
  refine List.forall_mem_cons.mpr ⟨kp_dup, ?_⟩
  refine List.forall_mem_cons.mpr ⟨kp_geti, ?_⟩
  refine List.forall_mem_cons.mpr ⟨kp_const, ?_⟩
  refine List.forall_mem_cons.mpr ⟨kp_bin (f := fun x y => x - y), ?_⟩
  refine List.forall_mem_cons.mpr ⟨kp_puti, ?_⟩
  refine List.forall_mem_cons.mpr ⟨kp_aload, ?_⟩
  refine List.forall_mem_cons.mpr ⟨kp_dup, ?_⟩
  refine List.forall_mem_cons.mpr ⟨kp_geti, ?_⟩
  refine List.forall_mem_cons.mpr ⟨kp_const, ?_⟩
  refine List.forall_mem_cons.mpr ⟨kp_bin (f := fun x y => x - y), ?_⟩
  refine List.forall_mem_cons.mpr ⟨kp_puti, ?_⟩
  refine List.forall_mem_cons.mpr ⟨kp_aload, ?_⟩
  refine List.forall_mem_cons.mpr ⟨kp_callv, ?_⟩
  refine List.forall_mem_cons.mpr ⟨kp_goto, ?_⟩
  refine List.forall_mem_cons.mpr ⟨kp_aload, ?_⟩
  refine List.forall_mem_cons.mpr ⟨kp_const, ?_⟩
  refine List.forall_mem_cons.mpr ⟨kp_callv, ?_⟩
  refine List.forall_mem_cons.mpr ⟨kp_if, ?_⟩
  refine List.forall_mem_cons.mpr ⟨kp_aload, ?_⟩
  refine List.forall_mem_cons.mpr ⟨kp_const, ?_⟩
  refine List.forall_mem_cons.mpr ⟨kp_callv, ?_⟩
  refine List.forall_mem_cons.mpr ⟨kp_if, ?_⟩
  refine List.forall_mem_cons.mpr ⟨kp_aload, ?_⟩
  refine List.forall_mem_cons.mpr ⟨kp_const, ?_⟩
  refine List.forall_mem_cons.mpr ⟨kp_callv, ?_⟩
  refine List.forall_mem_cons.mpr ⟨kp_if, ?_⟩
  refine List.forall_mem_cons.mpr ⟨kp_const, ?_⟩
  refine List.forall_mem_cons.mpr ⟨kp_goto, ?_⟩
  refine List.forall_mem_cons.mpr ⟨kp_const, ?_⟩
  refine List.forall_mem_cons.mpr ⟨kp_istore, ?_⟩
  refine List.forall_mem_cons.mpr ⟨kp_iload, ?_⟩
  refine List.forall_mem_cons.mpr ⟨kp_if, ?_⟩
  refine List.forall_mem_cons.mpr ⟨kp_aload, ?_⟩
  refine List.forall_mem_cons.mpr ⟨kp_geti, ?_⟩
  refine List.forall_mem_cons.mpr ⟨kp_iload, ?_⟩
  refine List.forall_mem_cons.mpr ⟨kp_icmp, ?_⟩
  refine List.forall_mem_cons.mpr ⟨kp_aload, ?_⟩
  refine List.forall_mem_cons.mpr ⟨kp_const, ?_⟩
  refine List.forall_mem_cons.mpr ⟨kp_callv, ?_⟩
  refine List.forall_mem_cons.mpr ⟨kp_aload, ?_⟩
  refine List.forall_mem_cons.mpr ⟨kp_const, ?_⟩
  refine List.forall_mem_cons.mpr ⟨kp_callv, ?_⟩
  refine List.forall_mem_cons.mpr ⟨kp_vret, ?_⟩
  refine List.forall_mem_cons.mpr ⟨kp_aload, ?_⟩
  refine List.forall_mem_cons.mpr ⟨kp_getr, ?_⟩
  refine List.forall_mem_cons.mpr ⟨kp_aload, ?_⟩
  refine List.forall_mem_cons.mpr ⟨kp_geti, ?_⟩
  refine List.forall_mem_cons.mpr ⟨kp_ald, ?_⟩
  refine List.forall_mem_cons.mpr ⟨kp_istore, ?_⟩
  refine List.forall_mem_cons.mpr ⟨kp_aload, ?_⟩
  refine List.forall_mem_cons.mpr ⟨kp_iload, ?_⟩
  refine List.forall_mem_cons.mpr ⟨kp_const, ?_⟩
  refine List.forall_mem_cons.mpr ⟨kp_icmp, ?_⟩
  refine List.forall_mem_cons.mpr ⟨kp_const, ?_⟩
  refine List.forall_mem_cons.mpr ⟨kp_goto, ?_⟩
  refine List.forall_mem_cons.mpr ⟨kp_const, ?_⟩
  refine List.forall_mem_cons.mpr ⟨kp_callv, ?_⟩
  refine List.forall_mem_cons.mpr ⟨kp_aload, ?_⟩
  refine List.forall_mem_cons.mpr ⟨kp_getr, ?_⟩
  refine List.forall_mem_cons.mpr ⟨kp_aload, ?_⟩
  refine List.forall_mem_cons.mpr ⟨kp_geti, ?_⟩
  refine List.forall_mem_cons.mpr ⟨kp_iload, ?_⟩
  refine List.forall_mem_cons.mpr ⟨kp_iast, ?_⟩
  refine List.forall_mem_cons.mpr ⟨kp_aload, ?_⟩
  refine List.forall_mem_cons.mpr ⟨kp_dup, ?_⟩
  refine List.forall_mem_cons.mpr ⟨kp_geti, ?_⟩
  refine List.forall_mem_cons.mpr ⟨kp_const, ?_⟩
  refine List.forall_mem_cons.mpr ⟨kp_bin (f := fun x y => x + y), ?_⟩
  refine List.forall_mem_cons.mpr ⟨kp_puti, ?_⟩
  refine List.forall_mem_cons.mpr ⟨kp_aload, ?_⟩
  refine List.forall_mem_cons.mpr ⟨kp_callv, ?_⟩
  refine List.forall_mem_cons.mpr ⟨kp_goto, ?_⟩
  refine List.forall_mem_cons.mpr ⟨kp_vret, ?_⟩
  exact List.forall_mem_nil _
theorem kqX12_isChannel : ∀ q ∈ tX12_isChannel, KP q.2 := by
  unfold tX12_isChannel
  refine List.forall_mem_cons.mpr ⟨kp_iload, ?_⟩
  refine List.forall_mem_cons.mpr ⟨kp_if, ?_⟩
  refine List.forall_mem_cons.mpr ⟨kp_iload, ?_⟩
  refine List.forall_mem_cons.mpr ⟨kp_aload, ?_⟩
  refine List.forall_mem_cons.mpr ⟨kp_geti, ?_⟩
  refine List.forall_mem_cons.mpr ⟨kp_icmp, ?_⟩
  refine List.forall_mem_cons.mpr ⟨kp_const, ?_⟩
  refine List.forall_mem_cons.mpr ⟨kp_goto, ?_⟩
  refine List.forall_mem_cons.mpr ⟨kp_const, ?_⟩
  refine List.forall_mem_cons.mpr ⟨kp_zret, ?_⟩
  exact List.forall_mem_nil _
theorem kqX12_isSlot : ∀ q ∈ tX12_isSlot, KP q.2 := by
  unfold tX12_isSlot
  refine List.forall_mem_cons.mpr ⟨kp_iload, ?_⟩
  refine List.forall_mem_cons.mpr ⟨kp_if, ?_⟩
  refine List.forall_mem_cons.mpr ⟨kp_iload, ?_⟩
  refine List.forall_mem_cons.mpr ⟨kp_const, ?_⟩
  refine List.forall_mem_cons.mpr ⟨kp_icmp, ?_⟩
  refine List.forall_mem_cons.mpr ⟨kp_const, ?_⟩
  refine List.forall_mem_cons.mpr ⟨kp_goto, ?_⟩
  refine List.forall_mem_cons.mpr ⟨kp_const, ?_⟩
  refine List.forall_mem_cons.mpr ⟨kp_zret, ?_⟩
  exact List.forall_mem_nil _
theorem kqX12_isKnown : ∀ q ∈ tX12_isKnown, KP q.2 := by
  unfold tX12_isKnown
  refine List.forall_mem_cons.mpr ⟨kp_iload, ?_⟩
  refine List.forall_mem_cons.mpr ⟨kp_if, ?_⟩
  refine List.forall_mem_cons.mpr ⟨kp_iload, ?_⟩
  refine List.forall_mem_cons.mpr ⟨kp_aload, ?_⟩
  refine List.forall_mem_cons.mpr ⟨kp_geti, ?_⟩
  refine List.forall_mem_cons.mpr ⟨kp_icmp, ?_⟩
  refine List.forall_mem_cons.mpr ⟨kp_const, ?_⟩
  refine List.forall_mem_cons.mpr ⟨kp_goto, ?_⟩
  refine List.forall_mem_cons.mpr ⟨kp_const, ?_⟩
  refine List.forall_mem_cons.mpr ⟨kp_zret, ?_⟩
  exact List.forall_mem_nil _
theorem kqX12_channels : ∀ q ∈ tX12_channels, KP q.2 := by
  unfold tX12_channels
  refine List.forall_mem_cons.mpr ⟨kp_iload, ?_⟩
  refine List.forall_mem_cons.mpr ⟨kp_const, ?_⟩
  refine List.forall_mem_cons.mpr ⟨kp_icmp, ?_⟩
  refine List.forall_mem_cons.mpr ⟨kp_iload, ?_⟩
  refine List.forall_mem_cons.mpr ⟨kp_const, ?_⟩
  refine List.forall_mem_cons.mpr ⟨kp_icmp, ?_⟩
  refine List.forall_mem_cons.mpr ⟨kp_aload, ?_⟩
  refine List.forall_mem_cons.mpr ⟨kp_geti, ?_⟩
  refine List.forall_mem_cons.mpr ⟨kp_if, ?_⟩
  refine List.forall_mem_cons.mpr ⟨kp_const, ?_⟩
  refine List.forall_mem_cons.mpr ⟨kp_zret, ?_⟩
  refine List.forall_mem_cons.mpr ⟨kp_aload, ?_⟩
  refine List.forall_mem_cons.mpr ⟨kp_iload, ?_⟩
  refine List.forall_mem_cons.mpr ⟨kp_puti, ?_⟩
  refine List.forall_mem_cons.mpr ⟨kp_aload, ?_⟩
  refine List.forall_mem_cons.mpr ⟨kp_const, ?_⟩
  refine List.forall_mem_cons.mpr ⟨kp_puti, ?_⟩
  refine List.forall_mem_cons.mpr ⟨kp_const, ?_⟩
  refine List.forall_mem_cons.mpr ⟨kp_zret, ?_⟩
  exact List.forall_mem_nil _
theorem kqX12_source : ∀ q ∈ tX12_source, KP q.2 := by
  unfold tX12_source
  refine List.forall_mem_cons.mpr ⟨kp_aload, ?_⟩
  refine List.forall_mem_cons.mpr ⟨kp_geti, ?_⟩
  refine List.forall_mem_cons.mpr ⟨kp_const, ?_⟩
  refine List.forall_mem_cons.mpr ⟨kp_icmp, ?_⟩
  refine List.forall_mem_cons.mpr ⟨kp_iload, ?_⟩
  refine List.forall_mem_cons.mpr ⟨kp_const, ?_⟩
  refine List.forall_mem_cons.mpr ⟨kp_icmp, ?_⟩
  refine List.forall_mem_cons.mpr ⟨kp_iload, ?_⟩
  refine List.forall_mem_cons.mpr ⟨kp_const, ?_⟩
  refine List.forall_mem_cons.mpr ⟨kp_icmp, ?_⟩
  refine List.forall_mem_cons.mpr ⟨kp_const, ?_⟩
  refine List.forall_mem_cons.mpr ⟨kp_iret, ?_⟩
  refine List.forall_mem_cons.mpr ⟨kp_aload, ?_⟩
  refine List.forall_mem_cons.mpr ⟨kp_getr, ?_⟩
  refine List.forall_mem_cons.mpr ⟨kp_aload, ?_⟩
  refine List.forall_mem_cons.mpr ⟨kp_geti, ?_⟩
  refine List.forall_mem_cons.mpr ⟨kp_iload, ?_⟩
  refine List.forall_mem_cons.mpr ⟨kp_iast, ?_⟩
  refine List.forall_mem_cons.mpr ⟨kp_aload, ?_⟩
  refine List.forall_mem_cons.mpr ⟨kp_dup, ?_⟩
  refine List.forall_mem_cons.mpr ⟨kp_geti, ?_⟩
  refine List.forall_mem_cons.mpr ⟨kp_const, ?_⟩
  refine List.forall_mem_cons.mpr ⟨kp_bin (f := fun x y => x + y), ?_⟩
  refine List.forall_mem_cons.mpr ⟨kp_puti, ?_⟩
  refine List.forall_mem_cons.mpr ⟨kp_aload, ?_⟩
  refine List.forall_mem_cons.mpr ⟨kp_geti, ?_⟩
  refine List.forall_mem_cons.mpr ⟨kp_const, ?_⟩
  refine List.forall_mem_cons.mpr ⟨kp_bin (f := fun x y => x - y), ?_⟩
  refine List.forall_mem_cons.mpr ⟨kp_iret, ?_⟩
  exact List.forall_mem_nil _
theorem kqX12_notice : ∀ q ∈ tX12_notice, KP q.2 := by
  unfold tX12_notice
  refine List.forall_mem_cons.mpr ⟨kp_aload, ?_⟩
  refine List.forall_mem_cons.mpr ⟨kp_geti, ?_⟩
  refine List.forall_mem_cons.mpr ⟨kp_const, ?_⟩
  refine List.forall_mem_cons.mpr ⟨kp_icmp, ?_⟩
  refine List.forall_mem_cons.mpr ⟨kp_iload, ?_⟩
  refine List.forall_mem_cons.mpr ⟨kp_if, ?_⟩
  refine List.forall_mem_cons.mpr ⟨kp_iload, ?_⟩
  refine List.forall_mem_cons.mpr ⟨kp_aload, ?_⟩
  refine List.forall_mem_cons.mpr ⟨kp_geti, ?_⟩
  refine List.forall_mem_cons.mpr ⟨kp_icmp, ?_⟩
  refine List.forall_mem_cons.mpr ⟨kp_aload, ?_⟩
  refine List.forall_mem_cons.mpr ⟨kp_iload, ?_⟩
  refine List.forall_mem_cons.mpr ⟨kp_callv, ?_⟩
  refine List.forall_mem_cons.mpr ⟨kp_if, ?_⟩
  refine List.forall_mem_cons.mpr ⟨kp_iload, ?_⟩
  refine List.forall_mem_cons.mpr ⟨kp_if, ?_⟩
  refine List.forall_mem_cons.mpr ⟨kp_iload, ?_⟩
  refine List.forall_mem_cons.mpr ⟨kp_iload, ?_⟩
  refine List.forall_mem_cons.mpr ⟨kp_icmp, ?_⟩
  refine List.forall_mem_cons.mpr ⟨kp_iload, ?_⟩
  refine List.forall_mem_cons.mpr ⟨kp_const, ?_⟩
  refine List.forall_mem_cons.mpr ⟨kp_icmp, ?_⟩
  refine List.forall_mem_cons.mpr ⟨kp_iload, ?_⟩
  refine List.forall_mem_cons.mpr ⟨kp_if, ?_⟩
  refine List.forall_mem_cons.mpr ⟨kp_iload, ?_⟩
  refine List.forall_mem_cons.mpr ⟨kp_const, ?_⟩
  refine List.forall_mem_cons.mpr ⟨kp_icmp, ?_⟩
  refine List.forall_mem_cons.mpr ⟨kp_iload, ?_⟩
  refine List.forall_mem_cons.mpr ⟨kp_if, ?_⟩
  refine List.forall_mem_cons.mpr ⟨kp_iload, ?_⟩
  refine List.forall_mem_cons.mpr ⟨kp_const, ?_⟩
  refine List.forall_mem_cons.mpr ⟨kp_icmp, ?_⟩
  refine List.forall_mem_cons.mpr ⟨kp_const, ?_⟩
  refine List.forall_mem_cons.mpr ⟨kp_iret, ?_⟩
  refine List.forall_mem_cons.mpr ⟨kp_aload, ?_⟩
  refine List.forall_mem_cons.mpr ⟨kp_getr, ?_⟩
  refine List.forall_mem_cons.mpr ⟨kp_aload, ?_⟩
  refine List.forall_mem_cons.mpr ⟨kp_geti, ?_⟩
  refine List.forall_mem_cons.mpr ⟨kp_const, ?_⟩
  refine List.forall_mem_cons.mpr ⟨kp_zast, ?_⟩
  refine List.forall_mem_cons.mpr ⟨kp_aload, ?_⟩
  refine List.forall_mem_cons.mpr ⟨kp_getr, ?_⟩
  refine List.forall_mem_cons.mpr ⟨kp_aload, ?_⟩
  refine List.forall_mem_cons.mpr ⟨kp_geti, ?_⟩
  refine List.forall_mem_cons.mpr ⟨kp_iload, ?_⟩
  refine List.forall_mem_cons.mpr ⟨kp_iast, ?_⟩
  refine List.forall_mem_cons.mpr ⟨kp_aload, ?_⟩
  refine List.forall_mem_cons.mpr ⟨kp_getr, ?_⟩
  refine List.forall_mem_cons.mpr ⟨kp_aload, ?_⟩
  refine List.forall_mem_cons.mpr ⟨kp_geti, ?_⟩
  refine List.forall_mem_cons.mpr ⟨kp_iload, ?_⟩
  refine List.forall_mem_cons.mpr ⟨kp_iast, ?_⟩
  refine List.forall_mem_cons.mpr ⟨kp_aload, ?_⟩
  refine List.forall_mem_cons.mpr ⟨kp_getr, ?_⟩
  refine List.forall_mem_cons.mpr ⟨kp_aload, ?_⟩
  refine List.forall_mem_cons.mpr ⟨kp_geti, ?_⟩
  refine List.forall_mem_cons.mpr ⟨kp_iload, ?_⟩
  refine List.forall_mem_cons.mpr ⟨kp_iast, ?_⟩
  refine List.forall_mem_cons.mpr ⟨kp_aload, ?_⟩
  refine List.forall_mem_cons.mpr ⟨kp_getr, ?_⟩
  refine List.forall_mem_cons.mpr ⟨kp_aload, ?_⟩
  refine List.forall_mem_cons.mpr ⟨kp_geti, ?_⟩
  refine List.forall_mem_cons.mpr ⟨kp_iload, ?_⟩
  refine List.forall_mem_cons.mpr ⟨kp_iast, ?_⟩
  refine List.forall_mem_cons.mpr ⟨kp_aload, ?_⟩
  refine List.forall_mem_cons.mpr ⟨kp_getr, ?_⟩
  refine List.forall_mem_cons.mpr ⟨kp_aload, ?_⟩
  refine List.forall_mem_cons.mpr ⟨kp_geti, ?_⟩
  refine List.forall_mem_cons.mpr ⟨kp_iload, ?_⟩
  refine List.forall_mem_cons.mpr ⟨kp_iast, ?_⟩
  refine List.forall_mem_cons.mpr ⟨kp_aload, ?_⟩
  refine List.forall_mem_cons.mpr ⟨kp_getr, ?_⟩
  refine List.forall_mem_cons.mpr ⟨kp_aload, ?_⟩
  refine List.forall_mem_cons.mpr ⟨kp_geti, ?_⟩
  refine List.forall_mem_cons.mpr ⟨kp_iload, ?_⟩
  refine List.forall_mem_cons.mpr ⟨kp_iast, ?_⟩
  refine List.forall_mem_cons.mpr ⟨kp_aload, ?_⟩
  refine List.forall_mem_cons.mpr ⟨kp_getr, ?_⟩
  refine List.forall_mem_cons.mpr ⟨kp_aload, ?_⟩
  refine List.forall_mem_cons.mpr ⟨kp_geti, ?_⟩
  refine List.forall_mem_cons.mpr ⟨kp_iload, ?_⟩
  refine List.forall_mem_cons.mpr ⟨kp_zast, ?_⟩
  refine List.forall_mem_cons.mpr ⟨kp_aload, ?_⟩
  refine List.forall_mem_cons.mpr ⟨kp_dup, ?_⟩
  refine List.forall_mem_cons.mpr ⟨kp_geti, ?_⟩
  refine List.forall_mem_cons.mpr ⟨kp_const, ?_⟩
  refine List.forall_mem_cons.mpr ⟨kp_bin (f := fun x y => x + y), ?_⟩
  refine List.forall_mem_cons.mpr ⟨kp_puti, ?_⟩
  refine List.forall_mem_cons.mpr ⟨kp_aload, ?_⟩
  refine List.forall_mem_cons.mpr ⟨kp_geti, ?_⟩
  refine List.forall_mem_cons.mpr ⟨kp_const, ?_⟩
  refine List.forall_mem_cons.mpr ⟨kp_bin (f := fun x y => x - y), ?_⟩
  refine List.forall_mem_cons.mpr ⟨kp_iret, ?_⟩
  exact List.forall_mem_nil _
theorem kqX12_over : ∀ q ∈ tX12_over, KP q.2 := by
  unfold tX12_over
  refine List.forall_mem_cons.mpr ⟨kp_aload, ?_⟩
  refine List.forall_mem_cons.mpr ⟨kp_geti, ?_⟩
  refine List.forall_mem_cons.mpr ⟨kp_const, ?_⟩
  refine List.forall_mem_cons.mpr ⟨kp_icmp, ?_⟩
  refine List.forall_mem_cons.mpr ⟨kp_aload, ?_⟩
  refine List.forall_mem_cons.mpr ⟨kp_iload, ?_⟩
  refine List.forall_mem_cons.mpr ⟨kp_callv, ?_⟩
  refine List.forall_mem_cons.mpr ⟨kp_if, ?_⟩
  refine List.forall_mem_cons.mpr ⟨kp_iload, ?_⟩
  refine List.forall_mem_cons.mpr ⟨kp_const, ?_⟩
  refine List.forall_mem_cons.mpr ⟨kp_icmp, ?_⟩
  refine List.forall_mem_cons.mpr ⟨kp_iload, ?_⟩
  refine List.forall_mem_cons.mpr ⟨kp_const, ?_⟩
  refine List.forall_mem_cons.mpr ⟨kp_icmp, ?_⟩
  refine List.forall_mem_cons.mpr ⟨kp_iload, ?_⟩
  refine List.forall_mem_cons.mpr ⟨kp_const, ?_⟩
  refine List.forall_mem_cons.mpr ⟨kp_icmp, ?_⟩
  refine List.forall_mem_cons.mpr ⟨kp_iload, ?_⟩
  refine List.forall_mem_cons.mpr ⟨kp_const, ?_⟩
  refine List.forall_mem_cons.mpr ⟨kp_icmp, ?_⟩
  refine List.forall_mem_cons.mpr ⟨kp_const, ?_⟩
  refine List.forall_mem_cons.mpr ⟨kp_iret, ?_⟩
  refine List.forall_mem_cons.mpr ⟨kp_aload, ?_⟩
  refine List.forall_mem_cons.mpr ⟨kp_getr, ?_⟩
  refine List.forall_mem_cons.mpr ⟨kp_aload, ?_⟩
  refine List.forall_mem_cons.mpr ⟨kp_geti, ?_⟩
  refine List.forall_mem_cons.mpr ⟨kp_const, ?_⟩
  refine List.forall_mem_cons.mpr ⟨kp_zast, ?_⟩
  refine List.forall_mem_cons.mpr ⟨kp_aload, ?_⟩
  refine List.forall_mem_cons.mpr ⟨kp_getr, ?_⟩
  refine List.forall_mem_cons.mpr ⟨kp_aload, ?_⟩
  refine List.forall_mem_cons.mpr ⟨kp_geti, ?_⟩
  refine List.forall_mem_cons.mpr ⟨kp_iload, ?_⟩
  refine List.forall_mem_cons.mpr ⟨kp_iast, ?_⟩
  refine List.forall_mem_cons.mpr ⟨kp_aload, ?_⟩
  refine List.forall_mem_cons.mpr ⟨kp_getr, ?_⟩
  refine List.forall_mem_cons.mpr ⟨kp_aload, ?_⟩
  refine List.forall_mem_cons.mpr ⟨kp_geti, ?_⟩
  refine List.forall_mem_cons.mpr ⟨kp_iload, ?_⟩
  refine List.forall_mem_cons.mpr ⟨kp_iast, ?_⟩
  refine List.forall_mem_cons.mpr ⟨kp_aload, ?_⟩
  refine List.forall_mem_cons.mpr ⟨kp_getr, ?_⟩
  refine List.forall_mem_cons.mpr ⟨kp_aload, ?_⟩
  refine List.forall_mem_cons.mpr ⟨kp_geti, ?_⟩
  refine List.forall_mem_cons.mpr ⟨kp_iload, ?_⟩
  refine List.forall_mem_cons.mpr ⟨kp_iast, ?_⟩
  refine List.forall_mem_cons.mpr ⟨kp_aload, ?_⟩
  refine List.forall_mem_cons.mpr ⟨kp_dup, ?_⟩
  refine List.forall_mem_cons.mpr ⟨kp_geti, ?_⟩
  refine List.forall_mem_cons.mpr ⟨kp_const, ?_⟩
  refine List.forall_mem_cons.mpr ⟨kp_bin (f := fun x y => x + y), ?_⟩
  refine List.forall_mem_cons.mpr ⟨kp_puti, ?_⟩
  refine List.forall_mem_cons.mpr ⟨kp_aload, ?_⟩
  refine List.forall_mem_cons.mpr ⟨kp_geti, ?_⟩
  refine List.forall_mem_cons.mpr ⟨kp_const, ?_⟩
  refine List.forall_mem_cons.mpr ⟨kp_bin (f := fun x y => x - y), ?_⟩
  refine List.forall_mem_cons.mpr ⟨kp_iret, ?_⟩
  exact List.forall_mem_nil _
theorem kqX12_recorder : ∀ q ∈ tX12_recorder, KP q.2 := by
  unfold tX12_recorder
  refine List.forall_mem_cons.mpr ⟨kp_iload, ?_⟩
  refine List.forall_mem_cons.mpr ⟨kp_const, ?_⟩
  refine List.forall_mem_cons.mpr ⟨kp_icmp, ?_⟩
  refine List.forall_mem_cons.mpr ⟨kp_iload, ?_⟩
  refine List.forall_mem_cons.mpr ⟨kp_const, ?_⟩
  refine List.forall_mem_cons.mpr ⟨kp_icmp, ?_⟩
  refine List.forall_mem_cons.mpr ⟨kp_iload, ?_⟩
  refine List.forall_mem_cons.mpr ⟨kp_if, ?_⟩
  refine List.forall_mem_cons.mpr ⟨kp_iload, ?_⟩
  refine List.forall_mem_cons.mpr ⟨kp_const, ?_⟩
  refine List.forall_mem_cons.mpr ⟨kp_icmp, ?_⟩
  refine List.forall_mem_cons.mpr ⟨kp_iload, ?_⟩
  refine List.forall_mem_cons.mpr ⟨kp_if, ?_⟩
  refine List.forall_mem_cons.mpr ⟨kp_iload, ?_⟩
  refine List.forall_mem_cons.mpr ⟨kp_const, ?_⟩
  refine List.forall_mem_cons.mpr ⟨kp_icmp, ?_⟩
  refine List.forall_mem_cons.mpr ⟨kp_iload, ?_⟩
  refine List.forall_mem_cons.mpr ⟨kp_if, ?_⟩
  refine List.forall_mem_cons.mpr ⟨kp_iload, ?_⟩
  refine List.forall_mem_cons.mpr ⟨kp_const, ?_⟩
  refine List.forall_mem_cons.mpr ⟨kp_icmp, ?_⟩
  refine List.forall_mem_cons.mpr ⟨kp_const, ?_⟩
  refine List.forall_mem_cons.mpr ⟨kp_zret, ?_⟩
  refine List.forall_mem_cons.mpr ⟨kp_aload, ?_⟩
  refine List.forall_mem_cons.mpr ⟨kp_iload, ?_⟩
  refine List.forall_mem_cons.mpr ⟨kp_puti, ?_⟩
  refine List.forall_mem_cons.mpr ⟨kp_aload, ?_⟩
  refine List.forall_mem_cons.mpr ⟨kp_iload, ?_⟩
  refine List.forall_mem_cons.mpr ⟨kp_puti, ?_⟩
  refine List.forall_mem_cons.mpr ⟨kp_aload, ?_⟩
  refine List.forall_mem_cons.mpr ⟨kp_iload, ?_⟩
  refine List.forall_mem_cons.mpr ⟨kp_puti, ?_⟩
  refine List.forall_mem_cons.mpr ⟨kp_aload, ?_⟩
  refine List.forall_mem_cons.mpr ⟨kp_iload, ?_⟩
  refine List.forall_mem_cons.mpr ⟨kp_puti, ?_⟩
  refine List.forall_mem_cons.mpr ⟨kp_const, ?_⟩
  refine List.forall_mem_cons.mpr ⟨kp_zret, ?_⟩
  exact List.forall_mem_nil _
theorem kqX12_clock : ∀ q ∈ tX12_clock, KP q.2 := by
  unfold tX12_clock
  refine List.forall_mem_cons.mpr ⟨kp_iload, ?_⟩
  refine List.forall_mem_cons.mpr ⟨kp_aload, ?_⟩
  refine List.forall_mem_cons.mpr ⟨kp_geti, ?_⟩
  refine List.forall_mem_cons.mpr ⟨kp_icmp, ?_⟩
  refine List.forall_mem_cons.mpr ⟨kp_iload, ?_⟩
  refine List.forall_mem_cons.mpr ⟨kp_call, ?_⟩
  refine List.forall_mem_cons.mpr ⟨kp_if, ?_⟩
  refine List.forall_mem_cons.mpr ⟨kp_const, ?_⟩
  refine List.forall_mem_cons.mpr ⟨kp_zret, ?_⟩
  refine List.forall_mem_cons.mpr ⟨kp_aload, ?_⟩
  refine List.forall_mem_cons.mpr ⟨kp_iload, ?_⟩
  refine List.forall_mem_cons.mpr ⟨kp_puti, ?_⟩
  refine List.forall_mem_cons.mpr ⟨kp_const, ?_⟩
  refine List.forall_mem_cons.mpr ⟨kp_zret, ?_⟩
  exact List.forall_mem_nil _
theorem kqX12_hears : ∀ q ∈ tX12_hears, KP q.2 := by
  unfold tX12_hears
  refine List.forall_mem_cons.mpr ⟨kp_const, ?_⟩
  refine List.forall_mem_cons.mpr ⟨kp_istore, ?_⟩
  refine List.forall_mem_cons.mpr ⟨kp_iload, ?_⟩
  refine List.forall_mem_cons.mpr ⟨kp_const, ?_⟩
  refine List.forall_mem_cons.mpr ⟨kp_icmp, ?_⟩
  refine List.forall_mem_cons.mpr ⟨kp_aload, ?_⟩
  refine List.forall_mem_cons.mpr ⟨kp_getr, ?_⟩
  refine List.forall_mem_cons.mpr ⟨kp_iload, ?_⟩
  refine List.forall_mem_cons.mpr ⟨kp_const, ?_⟩
  refine List.forall_mem_cons.mpr ⟨kp_iast, ?_⟩
  refine List.forall_mem_cons.mpr ⟨kp_iinc, ?_⟩
  refine List.forall_mem_cons.mpr ⟨kp_goto, ?_⟩
  refine List.forall_mem_cons.mpr ⟨kp_const, ?_⟩
  refine List.forall_mem_cons.mpr ⟨kp_istore, ?_⟩
  refine List.forall_mem_cons.mpr ⟨kp_iload, ?_⟩
  refine List.forall_mem_cons.mpr ⟨kp_iload, ?_⟩
  refine List.forall_mem_cons.mpr ⟨kp_icmp, ?_⟩
  refine List.forall_mem_cons.mpr ⟨kp_aload, ?_⟩
  refine List.forall_mem_cons.mpr ⟨kp_getr, ?_⟩
  refine List.forall_mem_cons.mpr ⟨kp_iload, ?_⟩
  refine List.forall_mem_cons.mpr ⟨kp_ald, ?_⟩
  refine List.forall_mem_cons.mpr ⟨kp_if, ?_⟩
  refine List.forall_mem_cons.mpr ⟨kp_aload, ?_⟩
  refine List.forall_mem_cons.mpr ⟨kp_getr, ?_⟩
  refine List.forall_mem_cons.mpr ⟨kp_iload, ?_⟩
  refine List.forall_mem_cons.mpr ⟨kp_ald, ?_⟩
  refine List.forall_mem_cons.mpr ⟨kp_iload, ?_⟩
  refine List.forall_mem_cons.mpr ⟨kp_icmp, ?_⟩
  refine List.forall_mem_cons.mpr ⟨kp_aload, ?_⟩
  refine List.forall_mem_cons.mpr ⟨kp_getr, ?_⟩
  refine List.forall_mem_cons.mpr ⟨kp_iload, ?_⟩
  refine List.forall_mem_cons.mpr ⟨kp_ald, ?_⟩
  refine List.forall_mem_cons.mpr ⟨kp_iload, ?_⟩
  refine List.forall_mem_cons.mpr ⟨kp_icmp, ?_⟩
  refine List.forall_mem_cons.mpr ⟨kp_aload, ?_⟩
  refine List.forall_mem_cons.mpr ⟨kp_getr, ?_⟩
  refine List.forall_mem_cons.mpr ⟨kp_iload, ?_⟩
  refine List.forall_mem_cons.mpr ⟨kp_ald, ?_⟩
  refine List.forall_mem_cons.mpr ⟨kp_istore, ?_⟩
  refine List.forall_mem_cons.mpr ⟨kp_iload, ?_⟩
  refine List.forall_mem_cons.mpr ⟨kp_aload, ?_⟩
  refine List.forall_mem_cons.mpr ⟨kp_getr, ?_⟩
  refine List.forall_mem_cons.mpr ⟨kp_iload, ?_⟩
  refine List.forall_mem_cons.mpr ⟨kp_ald, ?_⟩
  refine List.forall_mem_cons.mpr ⟨kp_icmp, ?_⟩
  refine List.forall_mem_cons.mpr ⟨kp_aload, ?_⟩
  refine List.forall_mem_cons.mpr ⟨kp_getr, ?_⟩
  refine List.forall_mem_cons.mpr ⟨kp_iload, ?_⟩
  refine List.forall_mem_cons.mpr ⟨kp_iload, ?_⟩
  refine List.forall_mem_cons.mpr ⟨kp_iast, ?_⟩
  refine List.forall_mem_cons.mpr ⟨kp_iinc, ?_⟩
  refine List.forall_mem_cons.mpr ⟨kp_goto, ?_⟩
  refine List.forall_mem_cons.mpr ⟨kp_iinc, ?_⟩
  refine List.forall_mem_cons.mpr ⟨kp_goto, ?_⟩
  refine List.forall_mem_cons.mpr ⟨kp_vret, ?_⟩
  exact List.forall_mem_nil _
theorem kqX12_makes : ∀ q ∈ tX12_makes, KP q.2 := by
  unfold tX12_makes
  refine List.forall_mem_cons.mpr ⟨kp_aload, ?_⟩
  refine List.forall_mem_cons.mpr ⟨kp_geti, ?_⟩
  refine List.forall_mem_cons.mpr ⟨kp_iload, ?_⟩
  refine List.forall_mem_cons.mpr ⟨kp_icmp, ?_⟩
  refine List.forall_mem_cons.mpr ⟨kp_vret, ?_⟩
  refine List.forall_mem_cons.mpr ⟨kp_aload, ?_⟩
  refine List.forall_mem_cons.mpr ⟨kp_iload, ?_⟩
  refine List.forall_mem_cons.mpr ⟨kp_puti, ?_⟩
  refine List.forall_mem_cons.mpr ⟨kp_const, ?_⟩
  refine List.forall_mem_cons.mpr ⟨kp_istore, ?_⟩
  refine List.forall_mem_cons.mpr ⟨kp_iload, ?_⟩
  refine List.forall_mem_cons.mpr ⟨kp_aload, ?_⟩
  refine List.forall_mem_cons.mpr ⟨kp_geti, ?_⟩
  refine List.forall_mem_cons.mpr ⟨kp_icmp, ?_⟩
  refine List.forall_mem_cons.mpr ⟨kp_const, ?_⟩
  refine List.forall_mem_cons.mpr ⟨kp_istore, ?_⟩
  refine List.forall_mem_cons.mpr ⟨kp_iload, ?_⟩
  refine List.forall_mem_cons.mpr ⟨kp_const, ?_⟩
  refine List.forall_mem_cons.mpr ⟨kp_icmp, ?_⟩
  refine List.forall_mem_cons.mpr ⟨kp_aload, ?_⟩
  refine List.forall_mem_cons.mpr ⟨kp_getr, ?_⟩
  refine List.forall_mem_cons.mpr ⟨kp_const, ?_⟩
  refine List.forall_mem_cons.mpr ⟨kp_iload, ?_⟩
  refine List.forall_mem_cons.mpr ⟨kp_bin (f := fun x y => x * y), ?_⟩
  refine List.forall_mem_cons.mpr ⟨kp_iload, ?_⟩
  refine List.forall_mem_cons.mpr ⟨kp_bin (f := fun x y => x + y), ?_⟩
  refine List.forall_mem_cons.mpr ⟨kp_const, ?_⟩
  refine List.forall_mem_cons.mpr ⟨kp_iast, ?_⟩
  refine List.forall_mem_cons.mpr ⟨kp_iinc, ?_⟩
  refine List.forall_mem_cons.mpr ⟨kp_goto, ?_⟩
  refine List.forall_mem_cons.mpr ⟨kp_const, ?_⟩
  refine List.forall_mem_cons.mpr ⟨kp_istore, ?_⟩
  refine List.forall_mem_cons.mpr ⟨kp_iload, ?_⟩
  refine List.forall_mem_cons.mpr ⟨kp_aload, ?_⟩
  refine List.forall_mem_cons.mpr ⟨kp_geti, ?_⟩
  refine List.forall_mem_cons.mpr ⟨kp_icmp, ?_⟩
  refine List.forall_mem_cons.mpr ⟨kp_aload, ?_⟩
  refine List.forall_mem_cons.mpr ⟨kp_iload, ?_⟩
  refine List.forall_mem_cons.mpr ⟨kp_iload, ?_⟩
  refine List.forall_mem_cons.mpr ⟨kp_iload, ?_⟩
  refine List.forall_mem_cons.mpr ⟨kp_callv, ?_⟩
  refine List.forall_mem_cons.mpr ⟨kp_const, ?_⟩
  refine List.forall_mem_cons.mpr ⟨kp_istore, ?_⟩
  refine List.forall_mem_cons.mpr ⟨kp_iload, ?_⟩
  refine List.forall_mem_cons.mpr ⟨kp_const, ?_⟩
  refine List.forall_mem_cons.mpr ⟨kp_icmp, ?_⟩
  refine List.forall_mem_cons.mpr ⟨kp_aload, ?_⟩
  refine List.forall_mem_cons.mpr ⟨kp_getr, ?_⟩
  refine List.forall_mem_cons.mpr ⟨kp_const, ?_⟩
  refine List.forall_mem_cons.mpr ⟨kp_iload, ?_⟩
  refine List.forall_mem_cons.mpr ⟨kp_bin (f := fun x y => x * y), ?_⟩
  refine List.forall_mem_cons.mpr ⟨kp_iload, ?_⟩
  refine List.forall_mem_cons.mpr ⟨kp_bin (f := fun x y => x + y), ?_⟩
  refine List.forall_mem_cons.mpr ⟨kp_ald, ?_⟩
  refine List.forall_mem_cons.mpr ⟨kp_istore, ?_⟩
  refine List.forall_mem_cons.mpr ⟨kp_aload, ?_⟩
  refine List.forall_mem_cons.mpr ⟨kp_getr, ?_⟩
  refine List.forall_mem_cons.mpr ⟨kp_iload, ?_⟩
  refine List.forall_mem_cons.mpr ⟨kp_ald, ?_⟩
  refine List.forall_mem_cons.mpr ⟨kp_const, ?_⟩
  refine List.forall_mem_cons.mpr ⟨kp_icmp, ?_⟩
  refine List.forall_mem_cons.mpr ⟨kp_iload, ?_⟩
  refine List.forall_mem_cons.mpr ⟨kp_const, ?_⟩
  refine List.forall_mem_cons.mpr ⟨kp_icmp, ?_⟩
  refine List.forall_mem_cons.mpr ⟨kp_aload, ?_⟩
  refine List.forall_mem_cons.mpr ⟨kp_getr, ?_⟩
  refine List.forall_mem_cons.mpr ⟨kp_iload, ?_⟩
  refine List.forall_mem_cons.mpr ⟨kp_ald, ?_⟩
  refine List.forall_mem_cons.mpr ⟨kp_aload, ?_⟩
  refine List.forall_mem_cons.mpr ⟨kp_getr, ?_⟩
  refine List.forall_mem_cons.mpr ⟨kp_aload, ?_⟩
  refine List.forall_mem_cons.mpr ⟨kp_getr, ?_⟩
  refine List.forall_mem_cons.mpr ⟨kp_iload, ?_⟩
  refine List.forall_mem_cons.mpr ⟨kp_ald, ?_⟩
  refine List.forall_mem_cons.mpr ⟨kp_ald, ?_⟩
  refine List.forall_mem_cons.mpr ⟨kp_icmp, ?_⟩
  refine List.forall_mem_cons.mpr ⟨kp_aload, ?_⟩
  refine List.forall_mem_cons.mpr ⟨kp_getr, ?_⟩
  refine List.forall_mem_cons.mpr ⟨kp_const, ?_⟩
  refine List.forall_mem_cons.mpr ⟨kp_iload, ?_⟩
  refine List.forall_mem_cons.mpr ⟨kp_bin (f := fun x y => x * y), ?_⟩
  refine List.forall_mem_cons.mpr ⟨kp_iload, ?_⟩
  refine List.forall_mem_cons.mpr ⟨kp_bin (f := fun x y => x + y), ?_⟩
  refine List.forall_mem_cons.mpr ⟨kp_aload, ?_⟩
  refine List.forall_mem_cons.mpr ⟨kp_getr, ?_⟩
  refine List.forall_mem_cons.mpr ⟨kp_iload, ?_⟩
  refine List.forall_mem_cons.mpr ⟨kp_ald, ?_⟩
  refine List.forall_mem_cons.mpr ⟨kp_iast, ?_⟩
  refine List.forall_mem_cons.mpr ⟨kp_iinc, ?_⟩
  refine List.forall_mem_cons.mpr ⟨kp_goto, ?_⟩
  refine List.forall_mem_cons.mpr ⟨kp_iinc, ?_⟩
  refine List.forall_mem_cons.mpr ⟨kp_goto, ?_⟩
  refine List.forall_mem_cons.mpr ⟨kp_const, ?_⟩
  refine List.forall_mem_cons.mpr ⟨kp_istore, ?_⟩
  refine List.forall_mem_cons.mpr ⟨kp_iload, ?_⟩
  refine List.forall_mem_cons.mpr ⟨kp_const, ?_⟩
  refine List.forall_mem_cons.mpr ⟨kp_icmp, ?_⟩
  refine List.forall_mem_cons.mpr ⟨kp_aload, ?_⟩
  refine List.forall_mem_cons.mpr ⟨kp_getr, ?_⟩
  refine List.forall_mem_cons.mpr ⟨kp_const, ?_⟩
  refine List.forall_mem_cons.mpr ⟨kp_iload, ?_⟩
  refine List.forall_mem_cons.mpr ⟨kp_bin (f := fun x y => x * y), ?_⟩
  refine List.forall_mem_cons.mpr ⟨kp_iload, ?_⟩
  refine List.forall_mem_cons.mpr ⟨kp_bin (f := fun x y => x + y), ?_⟩
  refine List.forall_mem_cons.mpr ⟨kp_ald, ?_⟩
  refine List.forall_mem_cons.mpr ⟨kp_const, ?_⟩
  refine List.forall_mem_cons.mpr ⟨kp_icmp, ?_⟩
  refine List.forall_mem_cons.mpr ⟨kp_aload, ?_⟩
  refine List.forall_mem_cons.mpr ⟨kp_getr, ?_⟩
  refine List.forall_mem_cons.mpr ⟨kp_aload, ?_⟩
  refine List.forall_mem_cons.mpr ⟨kp_getr, ?_⟩
  refine List.forall_mem_cons.mpr ⟨kp_const, ?_⟩
  refine List.forall_mem_cons.mpr ⟨kp_iload, ?_⟩
  refine List.forall_mem_cons.mpr ⟨kp_bin (f := fun x y => x * y), ?_⟩
  refine List.forall_mem_cons.mpr ⟨kp_iload, ?_⟩
  refine List.forall_mem_cons.mpr ⟨kp_bin (f := fun x y => x + y), ?_⟩
  refine List.forall_mem_cons.mpr ⟨kp_ald, ?_⟩
  refine List.forall_mem_cons.mpr ⟨kp_ald, ?_⟩
  refine List.forall_mem_cons.mpr ⟨kp_if, ?_⟩
  refine List.forall_mem_cons.mpr ⟨kp_aload, ?_⟩
  refine List.forall_mem_cons.mpr ⟨kp_getr, ?_⟩
  refine List.forall_mem_cons.mpr ⟨kp_const, ?_⟩
  refine List.forall_mem_cons.mpr ⟨kp_iload, ?_⟩
  refine List.forall_mem_cons.mpr ⟨kp_bin (f := fun x y => x * y), ?_⟩
  refine List.forall_mem_cons.mpr ⟨kp_iload, ?_⟩
  refine List.forall_mem_cons.mpr ⟨kp_bin (f := fun x y => x + y), ?_⟩
  refine List.forall_mem_cons.mpr ⟨kp_const, ?_⟩
  refine List.forall_mem_cons.mpr ⟨kp_iast, ?_⟩
  refine List.forall_mem_cons.mpr ⟨kp_iinc, ?_⟩
  refine List.forall_mem_cons.mpr ⟨kp_goto, ?_⟩
  refine List.forall_mem_cons.mpr ⟨kp_const, ?_⟩
  refine List.forall_mem_cons.mpr ⟨kp_istore, ?_⟩
  refine List.forall_mem_cons.mpr ⟨kp_iload, ?_⟩
  refine List.forall_mem_cons.mpr ⟨kp_iload, ?_⟩
  refine List.forall_mem_cons.mpr ⟨kp_icmp, ?_⟩
  refine List.forall_mem_cons.mpr ⟨kp_aload, ?_⟩
  refine List.forall_mem_cons.mpr ⟨kp_getr, ?_⟩
  refine List.forall_mem_cons.mpr ⟨kp_iload, ?_⟩
  refine List.forall_mem_cons.mpr ⟨kp_ald, ?_⟩
  refine List.forall_mem_cons.mpr ⟨kp_if, ?_⟩
  refine List.forall_mem_cons.mpr ⟨kp_aload, ?_⟩
  refine List.forall_mem_cons.mpr ⟨kp_getr, ?_⟩
  refine List.forall_mem_cons.mpr ⟨kp_iload, ?_⟩
  refine List.forall_mem_cons.mpr ⟨kp_ald, ?_⟩
  refine List.forall_mem_cons.mpr ⟨kp_iload, ?_⟩
  refine List.forall_mem_cons.mpr ⟨kp_icmp, ?_⟩
  refine List.forall_mem_cons.mpr ⟨kp_aload, ?_⟩
  refine List.forall_mem_cons.mpr ⟨kp_const, ?_⟩
  refine List.forall_mem_cons.mpr ⟨kp_iload, ?_⟩
  refine List.forall_mem_cons.mpr ⟨kp_bin (f := fun x y => x * y), ?_⟩
  refine List.forall_mem_cons.mpr ⟨kp_aload, ?_⟩
  refine List.forall_mem_cons.mpr ⟨kp_getr, ?_⟩
  refine List.forall_mem_cons.mpr ⟨kp_iload, ?_⟩
  refine List.forall_mem_cons.mpr ⟨kp_ald, ?_⟩
  refine List.forall_mem_cons.mpr ⟨kp_aload, ?_⟩
  refine List.forall_mem_cons.mpr ⟨kp_getr, ?_⟩
  refine List.forall_mem_cons.mpr ⟨kp_iload, ?_⟩
  refine List.forall_mem_cons.mpr ⟨kp_ald, ?_⟩
  refine List.forall_mem_cons.mpr ⟨kp_callv, ?_⟩
  refine List.forall_mem_cons.mpr ⟨kp_iinc, ?_⟩
  refine List.forall_mem_cons.mpr ⟨kp_goto, ?_⟩
  refine List.forall_mem_cons.mpr ⟨kp_iinc, ?_⟩
  refine List.forall_mem_cons.mpr ⟨kp_goto, ?_⟩
  refine List.forall_mem_cons.mpr ⟨kp_aload, ?_⟩
  refine List.forall_mem_cons.mpr ⟨kp_callv, ?_⟩
  refine List.forall_mem_cons.mpr ⟨kp_vret, ?_⟩
  exact List.forall_mem_nil _
theorem kqX12_pushes : ∀ q ∈ tX12_pushes, KP q.2 := by
  unfold tX12_pushes
  refine List.forall_mem_cons.mpr ⟨kp_aload, ?_⟩
  refine List.forall_mem_cons.mpr ⟨kp_getr, ?_⟩
  refine List.forall_mem_cons.mpr ⟨kp_iload, ?_⟩
  refine List.forall_mem_cons.mpr ⟨kp_iload, ?_⟩
  refine List.forall_mem_cons.mpr ⟨kp_bin (f := fun x y => x + y), ?_⟩
  refine List.forall_mem_cons.mpr ⟨kp_const, ?_⟩
  refine List.forall_mem_cons.mpr ⟨kp_bin (f := fun x y => x - y), ?_⟩
  refine List.forall_mem_cons.mpr ⟨kp_ald, ?_⟩
  refine List.forall_mem_cons.mpr ⟨kp_istore, ?_⟩
  refine List.forall_mem_cons.mpr ⟨kp_iload, ?_⟩
  refine List.forall_mem_cons.mpr ⟨kp_const, ?_⟩
  refine List.forall_mem_cons.mpr ⟨kp_icmp, ?_⟩
  refine List.forall_mem_cons.mpr ⟨kp_aload, ?_⟩
  refine List.forall_mem_cons.mpr ⟨kp_getr, ?_⟩
  refine List.forall_mem_cons.mpr ⟨kp_iload, ?_⟩
  refine List.forall_mem_cons.mpr ⟨kp_ald, ?_⟩
  refine List.forall_mem_cons.mpr ⟨kp_if, ?_⟩
  refine List.forall_mem_cons.mpr ⟨kp_vret, ?_⟩
  refine List.forall_mem_cons.mpr ⟨kp_const, ?_⟩
  refine List.forall_mem_cons.mpr ⟨kp_istore, ?_⟩
  refine List.forall_mem_cons.mpr ⟨kp_iload, ?_⟩
  refine List.forall_mem_cons.mpr ⟨kp_const, ?_⟩
  refine List.forall_mem_cons.mpr ⟨kp_icmp, ?_⟩
  refine List.forall_mem_cons.mpr ⟨kp_aload, ?_⟩
  refine List.forall_mem_cons.mpr ⟨kp_getr, ?_⟩
  refine List.forall_mem_cons.mpr ⟨kp_iload, ?_⟩
  refine List.forall_mem_cons.mpr ⟨kp_iload, ?_⟩
  refine List.forall_mem_cons.mpr ⟨kp_iload, ?_⟩
  refine List.forall_mem_cons.mpr ⟨kp_icmp, ?_⟩
  refine List.forall_mem_cons.mpr ⟨kp_aload, ?_⟩
  refine List.forall_mem_cons.mpr ⟨kp_getr, ?_⟩
  refine List.forall_mem_cons.mpr ⟨kp_iload, ?_⟩
  refine List.forall_mem_cons.mpr ⟨kp_iload, ?_⟩
  refine List.forall_mem_cons.mpr ⟨kp_bin (f := fun x y => x + y), ?_⟩
  refine List.forall_mem_cons.mpr ⟨kp_ald, ?_⟩
  refine List.forall_mem_cons.mpr ⟨kp_goto, ?_⟩
  refine List.forall_mem_cons.mpr ⟨kp_iload, ?_⟩
  refine List.forall_mem_cons.mpr ⟨kp_iload, ?_⟩
  refine List.forall_mem_cons.mpr ⟨kp_iload, ?_⟩
  refine List.forall_mem_cons.mpr ⟨kp_bin (f := fun x y => x + y), ?_⟩
  refine List.forall_mem_cons.mpr ⟨kp_icmp, ?_⟩
  refine List.forall_mem_cons.mpr ⟨kp_iload, ?_⟩
  refine List.forall_mem_cons.mpr ⟨kp_goto, ?_⟩
  refine List.forall_mem_cons.mpr ⟨kp_const, ?_⟩
  refine List.forall_mem_cons.mpr ⟨kp_iast, ?_⟩
  refine List.forall_mem_cons.mpr ⟨kp_iinc, ?_⟩
  refine List.forall_mem_cons.mpr ⟨kp_goto, ?_⟩
  refine List.forall_mem_cons.mpr ⟨kp_iload, ?_⟩
  refine List.forall_mem_cons.mpr ⟨kp_istore, ?_⟩
  refine List.forall_mem_cons.mpr ⟨kp_iload, ?_⟩
  refine List.forall_mem_cons.mpr ⟨kp_istore, ?_⟩
  refine List.forall_mem_cons.mpr ⟨kp_iload, ?_⟩
  refine List.forall_mem_cons.mpr ⟨kp_const, ?_⟩
  refine List.forall_mem_cons.mpr ⟨kp_icmp, ?_⟩
  refine List.forall_mem_cons.mpr ⟨kp_aload, ?_⟩
  refine List.forall_mem_cons.mpr ⟨kp_getr, ?_⟩
  refine List.forall_mem_cons.mpr ⟨kp_iload, ?_⟩
  refine List.forall_mem_cons.mpr ⟨kp_iload, ?_⟩
  refine List.forall_mem_cons.mpr ⟨kp_bin (f := fun x y => x + y), ?_⟩
  refine List.forall_mem_cons.mpr ⟨kp_ald, ?_⟩
  refine List.forall_mem_cons.mpr ⟨kp_const, ?_⟩
  refine List.forall_mem_cons.mpr ⟨kp_icmp, ?_⟩
  refine List.forall_mem_cons.mpr ⟨kp_iload, ?_⟩
  refine List.forall_mem_cons.mpr ⟨kp_if, ?_⟩
  refine List.forall_mem_cons.mpr ⟨kp_iinc, ?_⟩
  refine List.forall_mem_cons.mpr ⟨kp_goto, ?_⟩
  refine List.forall_mem_cons.mpr ⟨kp_iload, ?_⟩
  refine List.forall_mem_cons.mpr ⟨kp_iload, ?_⟩
  refine List.forall_mem_cons.mpr ⟨kp_bin (f := fun x y => x + y), ?_⟩
  refine List.forall_mem_cons.mpr ⟨kp_const, ?_⟩
  refine List.forall_mem_cons.mpr ⟨kp_icmp, ?_⟩
  refine List.forall_mem_cons.mpr ⟨kp_aload, ?_⟩
  refine List.forall_mem_cons.mpr ⟨kp_getr, ?_⟩
  refine List.forall_mem_cons.mpr ⟨kp_iload, ?_⟩
  refine List.forall_mem_cons.mpr ⟨kp_iload, ?_⟩
  refine List.forall_mem_cons.mpr ⟨kp_bin (f := fun x y => x + y), ?_⟩
  refine List.forall_mem_cons.mpr ⟨kp_aload, ?_⟩
  refine List.forall_mem_cons.mpr ⟨kp_getr, ?_⟩
  refine List.forall_mem_cons.mpr ⟨kp_iload, ?_⟩
  refine List.forall_mem_cons.mpr ⟨kp_iload, ?_⟩
  refine List.forall_mem_cons.mpr ⟨kp_bin (f := fun x y => x + y), ?_⟩
  refine List.forall_mem_cons.mpr ⟨kp_ald, ?_⟩
  refine List.forall_mem_cons.mpr ⟨kp_iast, ?_⟩
  refine List.forall_mem_cons.mpr ⟨kp_iinc, ?_⟩
  refine List.forall_mem_cons.mpr ⟨kp_goto, ?_⟩
  refine List.forall_mem_cons.mpr ⟨kp_const, ?_⟩
  refine List.forall_mem_cons.mpr ⟨kp_istore, ?_⟩
  refine List.forall_mem_cons.mpr ⟨kp_iload, ?_⟩
  refine List.forall_mem_cons.mpr ⟨kp_const, ?_⟩
  refine List.forall_mem_cons.mpr ⟨kp_icmp, ?_⟩
  refine List.forall_mem_cons.mpr ⟨kp_aload, ?_⟩
  refine List.forall_mem_cons.mpr ⟨kp_getr, ?_⟩
  refine List.forall_mem_cons.mpr ⟨kp_iload, ?_⟩
  refine List.forall_mem_cons.mpr ⟨kp_iload, ?_⟩
  refine List.forall_mem_cons.mpr ⟨kp_bin (f := fun x y => x + y), ?_⟩
  refine List.forall_mem_cons.mpr ⟨kp_aload, ?_⟩
  refine List.forall_mem_cons.mpr ⟨kp_getr, ?_⟩
  refine List.forall_mem_cons.mpr ⟨kp_iload, ?_⟩
  refine List.forall_mem_cons.mpr ⟨kp_ald, ?_⟩
  refine List.forall_mem_cons.mpr ⟨kp_iast, ?_⟩
  refine List.forall_mem_cons.mpr ⟨kp_iinc, ?_⟩
  refine List.forall_mem_cons.mpr ⟨kp_goto, ?_⟩
  refine List.forall_mem_cons.mpr ⟨kp_vret, ?_⟩
  exact List.forall_mem_nil _
theorem kqX12_shows : ∀ q ∈ tX12_shows, KP q.2 := by
  unfold tX12_shows
  refine List.forall_mem_cons.mpr ⟨kp_aload, ?_⟩
  refine List.forall_mem_cons.mpr ⟨kp_const, ?_⟩
  refine List.forall_mem_cons.mpr ⟨kp_puti, ?_⟩
  refine List.forall_mem_cons.mpr ⟨kp_const, ?_⟩
  refine List.forall_mem_cons.mpr ⟨kp_istore, ?_⟩
  refine List.forall_mem_cons.mpr ⟨kp_iload, ?_⟩
  refine List.forall_mem_cons.mpr ⟨kp_const, ?_⟩
  refine List.forall_mem_cons.mpr ⟨kp_icmp, ?_⟩
  refine List.forall_mem_cons.mpr ⟨kp_const, ?_⟩
  refine List.forall_mem_cons.mpr ⟨kp_istore, ?_⟩
  refine List.forall_mem_cons.mpr ⟨kp_iload, ?_⟩
  refine List.forall_mem_cons.mpr ⟨kp_aload, ?_⟩
  refine List.forall_mem_cons.mpr ⟨kp_geti, ?_⟩
  refine List.forall_mem_cons.mpr ⟨kp_icmp, ?_⟩
  refine List.forall_mem_cons.mpr ⟨kp_aload, ?_⟩
  refine List.forall_mem_cons.mpr ⟨kp_getr, ?_⟩
  refine List.forall_mem_cons.mpr ⟨kp_const, ?_⟩
  refine List.forall_mem_cons.mpr ⟨kp_iload, ?_⟩
  refine List.forall_mem_cons.mpr ⟨kp_bin (f := fun x y => x * y), ?_⟩
  refine List.forall_mem_cons.mpr ⟨kp_iload, ?_⟩
  refine List.forall_mem_cons.mpr ⟨kp_bin (f := fun x y => x + y), ?_⟩
  refine List.forall_mem_cons.mpr ⟨kp_ald, ?_⟩
  refine List.forall_mem_cons.mpr ⟨kp_istore, ?_⟩
  refine List.forall_mem_cons.mpr ⟨kp_iload, ?_⟩
  refine List.forall_mem_cons.mpr ⟨kp_const, ?_⟩
  refine List.forall_mem_cons.mpr ⟨kp_icmp, ?_⟩
  refine List.forall_mem_cons.mpr ⟨kp_iload, ?_⟩
  refine List.forall_mem_cons.mpr ⟨kp_if, ?_⟩
  refine List.forall_mem_cons.mpr ⟨kp_aload, ?_⟩
  refine List.forall_mem_cons.mpr ⟨kp_getr, ?_⟩
  refine List.forall_mem_cons.mpr ⟨kp_const, ?_⟩
  refine List.forall_mem_cons.mpr ⟨kp_iload, ?_⟩
  refine List.forall_mem_cons.mpr ⟨kp_bin (f := fun x y => x * y), ?_⟩
  refine List.forall_mem_cons.mpr ⟨kp_iload, ?_⟩
  refine List.forall_mem_cons.mpr ⟨kp_bin (f := fun x y => x + y), ?_⟩
  refine List.forall_mem_cons.mpr ⟨kp_const, ?_⟩
  refine List.forall_mem_cons.mpr ⟨kp_bin (f := fun x y => x - y), ?_⟩
  refine List.forall_mem_cons.mpr ⟨kp_ald, ?_⟩
  refine List.forall_mem_cons.mpr ⟨kp_iload, ?_⟩
  refine List.forall_mem_cons.mpr ⟨kp_icmp, ?_⟩
  refine List.forall_mem_cons.mpr ⟨kp_goto, ?_⟩
  refine List.forall_mem_cons.mpr ⟨kp_iload, ?_⟩
  refine List.forall_mem_cons.mpr ⟨kp_const, ?_⟩
  refine List.forall_mem_cons.mpr ⟨kp_bin (f := fun x y => x + y), ?_⟩
  refine List.forall_mem_cons.mpr ⟨kp_istore, ?_⟩
  refine List.forall_mem_cons.mpr ⟨kp_iload, ?_⟩
  refine List.forall_mem_cons.mpr ⟨kp_const, ?_⟩
  refine List.forall_mem_cons.mpr ⟨kp_icmp, ?_⟩
  refine List.forall_mem_cons.mpr ⟨kp_aload, ?_⟩
  refine List.forall_mem_cons.mpr ⟨kp_getr, ?_⟩
  refine List.forall_mem_cons.mpr ⟨kp_const, ?_⟩
  refine List.forall_mem_cons.mpr ⟨kp_iload, ?_⟩
  refine List.forall_mem_cons.mpr ⟨kp_bin (f := fun x y => x * y), ?_⟩
  refine List.forall_mem_cons.mpr ⟨kp_iload, ?_⟩
  refine List.forall_mem_cons.mpr ⟨kp_bin (f := fun x y => x + y), ?_⟩
  refine List.forall_mem_cons.mpr ⟨kp_ald, ?_⟩
  refine List.forall_mem_cons.mpr ⟨kp_iload, ?_⟩
  refine List.forall_mem_cons.mpr ⟨kp_icmp, ?_⟩
  refine List.forall_mem_cons.mpr ⟨kp_iinc, ?_⟩
  refine List.forall_mem_cons.mpr ⟨kp_goto, ?_⟩
  refine List.forall_mem_cons.mpr ⟨kp_aload, ?_⟩
  refine List.forall_mem_cons.mpr ⟨kp_getr, ?_⟩
  refine List.forall_mem_cons.mpr ⟨kp_aload, ?_⟩
  refine List.forall_mem_cons.mpr ⟨kp_geti, ?_⟩
  refine List.forall_mem_cons.mpr ⟨kp_iload, ?_⟩
  refine List.forall_mem_cons.mpr ⟨kp_iast, ?_⟩
  refine List.forall_mem_cons.mpr ⟨kp_aload, ?_⟩
  refine List.forall_mem_cons.mpr ⟨kp_getr, ?_⟩
  refine List.forall_mem_cons.mpr ⟨kp_aload, ?_⟩
  refine List.forall_mem_cons.mpr ⟨kp_geti, ?_⟩
  refine List.forall_mem_cons.mpr ⟨kp_iload, ?_⟩
  refine List.forall_mem_cons.mpr ⟨kp_iast, ?_⟩
  refine List.forall_mem_cons.mpr ⟨kp_aload, ?_⟩
  refine List.forall_mem_cons.mpr ⟨kp_getr, ?_⟩
  refine List.forall_mem_cons.mpr ⟨kp_aload, ?_⟩
  refine List.forall_mem_cons.mpr ⟨kp_geti, ?_⟩
  refine List.forall_mem_cons.mpr ⟨kp_iload, ?_⟩
  refine List.forall_mem_cons.mpr ⟨kp_iast, ?_⟩
  refine List.forall_mem_cons.mpr ⟨kp_aload, ?_⟩
  refine List.forall_mem_cons.mpr ⟨kp_getr, ?_⟩
  refine List.forall_mem_cons.mpr ⟨kp_aload, ?_⟩
  refine List.forall_mem_cons.mpr ⟨kp_geti, ?_⟩
  refine List.forall_mem_cons.mpr ⟨kp_iload, ?_⟩
  refine List.forall_mem_cons.mpr ⟨kp_iast, ?_⟩
  refine List.forall_mem_cons.mpr ⟨kp_aload, ?_⟩
  refine List.forall_mem_cons.mpr ⟨kp_dup, ?_⟩
  refine List.forall_mem_cons.mpr ⟨kp_geti, ?_⟩
  refine List.forall_mem_cons.mpr ⟨kp_const, ?_⟩
  refine List.forall_mem_cons.mpr ⟨kp_bin (f := fun x y => x + y), ?_⟩
  refine List.forall_mem_cons.mpr ⟨kp_puti, ?_⟩
  refine List.forall_mem_cons.mpr ⟨kp_iinc, ?_⟩
  refine List.forall_mem_cons.mpr ⟨kp_goto, ?_⟩
  refine List.forall_mem_cons.mpr ⟨kp_iinc, ?_⟩
  refine List.forall_mem_cons.mpr ⟨kp_goto, ?_⟩
  refine List.forall_mem_cons.mpr ⟨kp_vret, ?_⟩
  exact List.forall_mem_nil _
theorem kqX12_areOne : ∀ q ∈ tX12_areOne, KP q.2 := by
  unfold tX12_areOne
  refine List.forall_mem_cons.mpr ⟨kp_aload, ?_⟩
  refine List.forall_mem_cons.mpr ⟨kp_getr, ?_⟩
  refine List.forall_mem_cons.mpr ⟨kp_aload, ?_⟩
  refine List.forall_mem_cons.mpr ⟨kp_getr, ?_⟩
  refine List.forall_mem_cons.mpr ⟨kp_iload, ?_⟩
  refine List.forall_mem_cons.mpr ⟨kp_ald, ?_⟩
  refine List.forall_mem_cons.mpr ⟨kp_ald, ?_⟩
  refine List.forall_mem_cons.mpr ⟨kp_aload, ?_⟩
  refine List.forall_mem_cons.mpr ⟨kp_getr, ?_⟩
  refine List.forall_mem_cons.mpr ⟨kp_aload, ?_⟩
  refine List.forall_mem_cons.mpr ⟨kp_getr, ?_⟩
  refine List.forall_mem_cons.mpr ⟨kp_iload, ?_⟩
  refine List.forall_mem_cons.mpr ⟨kp_ald, ?_⟩
  refine List.forall_mem_cons.mpr ⟨kp_ald, ?_⟩
  refine List.forall_mem_cons.mpr ⟨kp_icmp, ?_⟩
  refine List.forall_mem_cons.mpr ⟨kp_aload, ?_⟩
  refine List.forall_mem_cons.mpr ⟨kp_getr, ?_⟩
  refine List.forall_mem_cons.mpr ⟨kp_aload, ?_⟩
  refine List.forall_mem_cons.mpr ⟨kp_getr, ?_⟩
  refine List.forall_mem_cons.mpr ⟨kp_iload, ?_⟩
  refine List.forall_mem_cons.mpr ⟨kp_ald, ?_⟩
  refine List.forall_mem_cons.mpr ⟨kp_ald, ?_⟩
  refine List.forall_mem_cons.mpr ⟨kp_aload, ?_⟩
  refine List.forall_mem_cons.mpr ⟨kp_getr, ?_⟩
  refine List.forall_mem_cons.mpr ⟨kp_aload, ?_⟩
  refine List.forall_mem_cons.mpr ⟨kp_getr, ?_⟩
  refine List.forall_mem_cons.mpr ⟨kp_iload, ?_⟩
  refine List.forall_mem_cons.mpr ⟨kp_ald, ?_⟩
  refine List.forall_mem_cons.mpr ⟨kp_ald, ?_⟩
  refine List.forall_mem_cons.mpr ⟨kp_icmp, ?_⟩
  refine List.forall_mem_cons.mpr ⟨kp_aload, ?_⟩
  refine List.forall_mem_cons.mpr ⟨kp_getr, ?_⟩
  refine List.forall_mem_cons.mpr ⟨kp_aload, ?_⟩
  refine List.forall_mem_cons.mpr ⟨kp_getr, ?_⟩
  refine List.forall_mem_cons.mpr ⟨kp_iload, ?_⟩
  refine List.forall_mem_cons.mpr ⟨kp_ald, ?_⟩
  refine List.forall_mem_cons.mpr ⟨kp_ald, ?_⟩
  refine List.forall_mem_cons.mpr ⟨kp_if, ?_⟩
  refine List.forall_mem_cons.mpr ⟨kp_const, ?_⟩
  refine List.forall_mem_cons.mpr ⟨kp_goto, ?_⟩
  refine List.forall_mem_cons.mpr ⟨kp_const, ?_⟩
  refine List.forall_mem_cons.mpr ⟨kp_zret, ?_⟩
  exact List.forall_mem_nil _
theorem kqX12_sent : ∀ q ∈ tX12_sent, KP q.2 := by
  unfold tX12_sent
  refine List.forall_mem_cons.mpr ⟨kp_aload, ?_⟩
  refine List.forall_mem_cons.mpr ⟨kp_iload, ?_⟩
  refine List.forall_mem_cons.mpr ⟨kp_callv, ?_⟩
  refine List.forall_mem_cons.mpr ⟨kp_if, ?_⟩
  refine List.forall_mem_cons.mpr ⟨kp_iload, ?_⟩
  refine List.forall_mem_cons.mpr ⟨kp_call, ?_⟩
  refine List.forall_mem_cons.mpr ⟨kp_if, ?_⟩
  refine List.forall_mem_cons.mpr ⟨kp_aload, ?_⟩
  refine List.forall_mem_cons.mpr ⟨kp_iload, ?_⟩
  refine List.forall_mem_cons.mpr ⟨kp_callv, ?_⟩
  refine List.forall_mem_cons.mpr ⟨kp_if, ?_⟩
  refine List.forall_mem_cons.mpr ⟨kp_const, ?_⟩
  refine List.forall_mem_cons.mpr ⟨kp_iret, ?_⟩
  refine List.forall_mem_cons.mpr ⟨kp_aload, ?_⟩
  refine List.forall_mem_cons.mpr ⟨kp_iload, ?_⟩
  refine List.forall_mem_cons.mpr ⟨kp_callv, ?_⟩
  refine List.forall_mem_cons.mpr ⟨kp_aload, ?_⟩
  refine List.forall_mem_cons.mpr ⟨kp_getr, ?_⟩
  refine List.forall_mem_cons.mpr ⟨kp_const, ?_⟩
  refine List.forall_mem_cons.mpr ⟨kp_iload, ?_⟩
  refine List.forall_mem_cons.mpr ⟨kp_bin (f := fun x y => x * y), ?_⟩
  refine List.forall_mem_cons.mpr ⟨kp_iload, ?_⟩
  refine List.forall_mem_cons.mpr ⟨kp_bin (f := fun x y => x + y), ?_⟩
  refine List.forall_mem_cons.mpr ⟨kp_ald, ?_⟩
  refine List.forall_mem_cons.mpr ⟨kp_iret, ?_⟩
  exact List.forall_mem_nil _
theorem kqX12_says : ∀ q ∈ tX12_says, KP q.2 := by
  unfold tX12_says
  refine List.forall_mem_cons.mpr ⟨kp_iload, ?_⟩
  refine List.forall_mem_cons.mpr ⟨kp_if, ?_⟩
  refine List.forall_mem_cons.mpr ⟨kp_iload, ?_⟩
  refine List.forall_mem_cons.mpr ⟨kp_aload, ?_⟩
  refine List.forall_mem_cons.mpr ⟨kp_geti, ?_⟩
  refine List.forall_mem_cons.mpr ⟨kp_icmp, ?_⟩
  refine List.forall_mem_cons.mpr ⟨kp_aload, ?_⟩
  refine List.forall_mem_cons.mpr ⟨kp_iload, ?_⟩
  refine List.forall_mem_cons.mpr ⟨kp_callv, ?_⟩
  refine List.forall_mem_cons.mpr ⟨kp_if, ?_⟩
  refine List.forall_mem_cons.mpr ⟨kp_iload, ?_⟩
  refine List.forall_mem_cons.mpr ⟨kp_call, ?_⟩
  refine List.forall_mem_cons.mpr ⟨kp_if, ?_⟩
  refine List.forall_mem_cons.mpr ⟨kp_aload, ?_⟩
  refine List.forall_mem_cons.mpr ⟨kp_iload, ?_⟩
  refine List.forall_mem_cons.mpr ⟨kp_callv, ?_⟩
  refine List.forall_mem_cons.mpr ⟨kp_if, ?_⟩
  refine List.forall_mem_cons.mpr ⟨kp_const, ?_⟩
  refine List.forall_mem_cons.mpr ⟨kp_iret, ?_⟩
  refine List.forall_mem_cons.mpr ⟨kp_aload, ?_⟩
  refine List.forall_mem_cons.mpr ⟨kp_iload, ?_⟩
  refine List.forall_mem_cons.mpr ⟨kp_iload, ?_⟩
  refine List.forall_mem_cons.mpr ⟨kp_iload, ?_⟩
  refine List.forall_mem_cons.mpr ⟨kp_callv, ?_⟩
  refine List.forall_mem_cons.mpr ⟨kp_aload, ?_⟩
  refine List.forall_mem_cons.mpr ⟨kp_getr, ?_⟩
  refine List.forall_mem_cons.mpr ⟨kp_iload, ?_⟩
  refine List.forall_mem_cons.mpr ⟨kp_ald, ?_⟩
  refine List.forall_mem_cons.mpr ⟨kp_iret, ?_⟩
  exact List.forall_mem_nil _
theorem kqX12_variable : ∀ q ∈ tX12_variable, KP q.2 := by
  unfold tX12_variable
  refine List.forall_mem_cons.mpr ⟨kp_aload, ?_⟩
  refine List.forall_mem_cons.mpr ⟨kp_getr, ?_⟩
  refine List.forall_mem_cons.mpr ⟨kp_iload, ?_⟩
  refine List.forall_mem_cons.mpr ⟨kp_ald, ?_⟩
  refine List.forall_mem_cons.mpr ⟨kp_istore, ?_⟩
  refine List.forall_mem_cons.mpr ⟨kp_iload, ?_⟩
  refine List.forall_mem_cons.mpr ⟨kp_sw, ?_⟩
  refine List.forall_mem_cons.mpr ⟨kp_aload, ?_⟩
  refine List.forall_mem_cons.mpr ⟨kp_getr, ?_⟩
  refine List.forall_mem_cons.mpr ⟨kp_iload, ?_⟩
  refine List.forall_mem_cons.mpr ⟨kp_ald, ?_⟩
  refine List.forall_mem_cons.mpr ⟨kp_iret, ?_⟩
  refine List.forall_mem_cons.mpr ⟨kp_aload, ?_⟩
  refine List.forall_mem_cons.mpr ⟨kp_getr, ?_⟩
  refine List.forall_mem_cons.mpr ⟨kp_iload, ?_⟩
  refine List.forall_mem_cons.mpr ⟨kp_ald, ?_⟩
  refine List.forall_mem_cons.mpr ⟨kp_iret, ?_⟩
  refine List.forall_mem_cons.mpr ⟨kp_aload, ?_⟩
  refine List.forall_mem_cons.mpr ⟨kp_getr, ?_⟩
  refine List.forall_mem_cons.mpr ⟨kp_iload, ?_⟩
  refine List.forall_mem_cons.mpr ⟨kp_ald, ?_⟩
  refine List.forall_mem_cons.mpr ⟨kp_iret, ?_⟩
  refine List.forall_mem_cons.mpr ⟨kp_aload, ?_⟩
  refine List.forall_mem_cons.mpr ⟨kp_getr, ?_⟩
  refine List.forall_mem_cons.mpr ⟨kp_iload, ?_⟩
  refine List.forall_mem_cons.mpr ⟨kp_ald, ?_⟩
  refine List.forall_mem_cons.mpr ⟨kp_iret, ?_⟩
  refine List.forall_mem_cons.mpr ⟨kp_aload, ?_⟩
  refine List.forall_mem_cons.mpr ⟨kp_getr, ?_⟩
  refine List.forall_mem_cons.mpr ⟨kp_iload, ?_⟩
  refine List.forall_mem_cons.mpr ⟨kp_ald, ?_⟩
  refine List.forall_mem_cons.mpr ⟨kp_iret, ?_⟩
  refine List.forall_mem_cons.mpr ⟨kp_aload, ?_⟩
  refine List.forall_mem_cons.mpr ⟨kp_getr, ?_⟩
  refine List.forall_mem_cons.mpr ⟨kp_iload, ?_⟩
  refine List.forall_mem_cons.mpr ⟨kp_ald, ?_⟩
  refine List.forall_mem_cons.mpr ⟨kp_aload, ?_⟩
  refine List.forall_mem_cons.mpr ⟨kp_getr, ?_⟩
  refine List.forall_mem_cons.mpr ⟨kp_iload, ?_⟩
  refine List.forall_mem_cons.mpr ⟨kp_ald, ?_⟩
  refine List.forall_mem_cons.mpr ⟨kp_bin (f := fun x y => x - y), ?_⟩
  refine List.forall_mem_cons.mpr ⟨kp_iret, ?_⟩
  refine List.forall_mem_cons.mpr ⟨kp_aload, ?_⟩
  refine List.forall_mem_cons.mpr ⟨kp_getr, ?_⟩
  refine List.forall_mem_cons.mpr ⟨kp_aload, ?_⟩
  refine List.forall_mem_cons.mpr ⟨kp_getr, ?_⟩
  refine List.forall_mem_cons.mpr ⟨kp_iload, ?_⟩
  refine List.forall_mem_cons.mpr ⟨kp_ald, ?_⟩
  refine List.forall_mem_cons.mpr ⟨kp_ald, ?_⟩
  refine List.forall_mem_cons.mpr ⟨kp_iret, ?_⟩
  exact List.forall_mem_nil _
theorem kqX12_value : ∀ q ∈ tX12_value, KP q.2 := by
  unfold tX12_value
  refine List.forall_mem_cons.mpr ⟨kp_const, ?_⟩
  refine List.forall_mem_cons.mpr ⟨kp_istore, ?_⟩
  refine List.forall_mem_cons.mpr ⟨kp_iload, ?_⟩
  refine List.forall_mem_cons.mpr ⟨kp_istore, ?_⟩
  refine List.forall_mem_cons.mpr ⟨kp_iload, ?_⟩
  refine List.forall_mem_cons.mpr ⟨kp_iload, ?_⟩
  refine List.forall_mem_cons.mpr ⟨kp_icmp, ?_⟩
  refine List.forall_mem_cons.mpr ⟨kp_aload, ?_⟩
  refine List.forall_mem_cons.mpr ⟨kp_getr, ?_⟩
  refine List.forall_mem_cons.mpr ⟨kp_iload, ?_⟩
  refine List.forall_mem_cons.mpr ⟨kp_ald, ?_⟩
  refine List.forall_mem_cons.mpr ⟨kp_const, ?_⟩
  refine List.forall_mem_cons.mpr ⟨kp_icmp, ?_⟩
  refine List.forall_mem_cons.mpr ⟨kp_aload, ?_⟩
  refine List.forall_mem_cons.mpr ⟨kp_getr, ?_⟩
  refine List.forall_mem_cons.mpr ⟨kp_iload, ?_⟩
  refine List.forall_mem_cons.mpr ⟨kp_aload, ?_⟩
  refine List.forall_mem_cons.mpr ⟨kp_getr, ?_⟩
  refine List.forall_mem_cons.mpr ⟨kp_iload, ?_⟩
  refine List.forall_mem_cons.mpr ⟨kp_ald, ?_⟩
  refine List.forall_mem_cons.mpr ⟨kp_if, ?_⟩
  refine List.forall_mem_cons.mpr ⟨kp_aload, ?_⟩
  refine List.forall_mem_cons.mpr ⟨kp_getr, ?_⟩
  refine List.forall_mem_cons.mpr ⟨kp_iload, ?_⟩
  refine List.forall_mem_cons.mpr ⟨kp_ald, ?_⟩
  refine List.forall_mem_cons.mpr ⟨kp_goto, ?_⟩
  refine List.forall_mem_cons.mpr ⟨kp_aload, ?_⟩
  refine List.forall_mem_cons.mpr ⟨kp_aload, ?_⟩
  refine List.forall_mem_cons.mpr ⟨kp_getr, ?_⟩
  refine List.forall_mem_cons.mpr ⟨kp_iload, ?_⟩
  refine List.forall_mem_cons.mpr ⟨kp_ald, ?_⟩
  refine List.forall_mem_cons.mpr ⟨kp_iload, ?_⟩
  refine List.forall_mem_cons.mpr ⟨kp_callv, ?_⟩
  refine List.forall_mem_cons.mpr ⟨kp_iast, ?_⟩
  refine List.forall_mem_cons.mpr ⟨kp_iinc, ?_⟩
  refine List.forall_mem_cons.mpr ⟨kp_goto, ?_⟩
  refine List.forall_mem_cons.mpr ⟨kp_iinc, ?_⟩
  refine List.forall_mem_cons.mpr ⟨kp_aload, ?_⟩
  refine List.forall_mem_cons.mpr ⟨kp_getr, ?_⟩
  refine List.forall_mem_cons.mpr ⟨kp_iload, ?_⟩
  refine List.forall_mem_cons.mpr ⟨kp_const, ?_⟩
  refine List.forall_mem_cons.mpr ⟨kp_bin (f := fun x y => x - y), ?_⟩
  refine List.forall_mem_cons.mpr ⟨kp_ald, ?_⟩
  refine List.forall_mem_cons.mpr ⟨kp_istore, ?_⟩
  refine List.forall_mem_cons.mpr ⟨kp_aload, ?_⟩
  refine List.forall_mem_cons.mpr ⟨kp_getr, ?_⟩
  refine List.forall_mem_cons.mpr ⟨kp_iload, ?_⟩
  refine List.forall_mem_cons.mpr ⟨kp_ald, ?_⟩
  refine List.forall_mem_cons.mpr ⟨kp_istore, ?_⟩
  refine List.forall_mem_cons.mpr ⟨kp_aload, ?_⟩
  refine List.forall_mem_cons.mpr ⟨kp_getr, ?_⟩
  refine List.forall_mem_cons.mpr ⟨kp_iload, ?_⟩
  refine List.forall_mem_cons.mpr ⟨kp_const, ?_⟩
  refine List.forall_mem_cons.mpr ⟨kp_bin (f := fun x y => x - y), ?_⟩
  refine List.forall_mem_cons.mpr ⟨kp_aload, ?_⟩
  refine List.forall_mem_cons.mpr ⟨kp_getr, ?_⟩
  refine List.forall_mem_cons.mpr ⟨kp_iload, ?_⟩
  refine List.forall_mem_cons.mpr ⟨kp_ald, ?_⟩
  refine List.forall_mem_cons.mpr ⟨kp_const, ?_⟩
  refine List.forall_mem_cons.mpr ⟨kp_icmp, ?_⟩
  refine List.forall_mem_cons.mpr ⟨kp_iload, ?_⟩
  refine List.forall_mem_cons.mpr ⟨kp_iload, ?_⟩
  refine List.forall_mem_cons.mpr ⟨kp_bin (f := fun x y => x + y), ?_⟩
  refine List.forall_mem_cons.mpr ⟨kp_goto, ?_⟩
  refine List.forall_mem_cons.mpr ⟨kp_aload, ?_⟩
  refine List.forall_mem_cons.mpr ⟨kp_getr, ?_⟩
  refine List.forall_mem_cons.mpr ⟨kp_iload, ?_⟩
  refine List.forall_mem_cons.mpr ⟨kp_ald, ?_⟩
  refine List.forall_mem_cons.mpr ⟨kp_const, ?_⟩
  refine List.forall_mem_cons.mpr ⟨kp_icmp, ?_⟩
  refine List.forall_mem_cons.mpr ⟨kp_iload, ?_⟩
  refine List.forall_mem_cons.mpr ⟨kp_iload, ?_⟩
  refine List.forall_mem_cons.mpr ⟨kp_bin (f := fun x y => x - y), ?_⟩
  refine List.forall_mem_cons.mpr ⟨kp_goto, ?_⟩
  refine List.forall_mem_cons.mpr ⟨kp_iload, ?_⟩
  refine List.forall_mem_cons.mpr ⟨kp_iload, ?_⟩
  refine List.forall_mem_cons.mpr ⟨kp_bin (f := fun x y => x * y), ?_⟩
  refine List.forall_mem_cons.mpr ⟨kp_iast, ?_⟩
  refine List.forall_mem_cons.mpr ⟨kp_iinc, ?_⟩
  refine List.forall_mem_cons.mpr ⟨kp_goto, ?_⟩
  refine List.forall_mem_cons.mpr ⟨kp_aload, ?_⟩
  refine List.forall_mem_cons.mpr ⟨kp_getr, ?_⟩
  refine List.forall_mem_cons.mpr ⟨kp_const, ?_⟩
  refine List.forall_mem_cons.mpr ⟨kp_ald, ?_⟩
  refine List.forall_mem_cons.mpr ⟨kp_iret, ?_⟩
  exact List.forall_mem_nil _
theorem kqX12_leastOne : ∀ q ∈ tX12_leastOne, KP q.2 := by
  unfold tX12_leastOne
  refine List.forall_mem_cons.mpr ⟨kp_const, ?_⟩
  refine List.forall_mem_cons.mpr ⟨kp_istore, ?_⟩
  refine List.forall_mem_cons.mpr ⟨kp_iload, ?_⟩
  refine List.forall_mem_cons.mpr ⟨kp_iload, ?_⟩
  refine List.forall_mem_cons.mpr ⟨kp_icmp, ?_⟩
  refine List.forall_mem_cons.mpr ⟨kp_aload, ?_⟩
  refine List.forall_mem_cons.mpr ⟨kp_iload, ?_⟩
  refine List.forall_mem_cons.mpr ⟨kp_iload, ?_⟩
  refine List.forall_mem_cons.mpr ⟨kp_callv, ?_⟩
  refine List.forall_mem_cons.mpr ⟨kp_if, ?_⟩
  refine List.forall_mem_cons.mpr ⟨kp_iload, ?_⟩
  refine List.forall_mem_cons.mpr ⟨kp_iret, ?_⟩
  refine List.forall_mem_cons.mpr ⟨kp_iinc, ?_⟩
  refine List.forall_mem_cons.mpr ⟨kp_goto, ?_⟩
  refine List.forall_mem_cons.mpr ⟨kp_iload, ?_⟩
  refine List.forall_mem_cons.mpr ⟨kp_iret, ?_⟩
  exact List.forall_mem_nil _
theorem kqX12_isTrue : ∀ q ∈ tX12_isTrue, KP q.2 := by
  unfold tX12_isTrue
  refine List.forall_mem_cons.mpr ⟨kp_aload, ?_⟩
  refine List.forall_mem_cons.mpr ⟨kp_getr, ?_⟩
  refine List.forall_mem_cons.mpr ⟨kp_iload, ?_⟩
  refine List.forall_mem_cons.mpr ⟨kp_ald, ?_⟩
  refine List.forall_mem_cons.mpr ⟨kp_const, ?_⟩
  refine List.forall_mem_cons.mpr ⟨kp_icmp, ?_⟩
  refine List.forall_mem_cons.mpr ⟨kp_aload, ?_⟩
  refine List.forall_mem_cons.mpr ⟨kp_getr, ?_⟩
  refine List.forall_mem_cons.mpr ⟨kp_aload, ?_⟩
  refine List.forall_mem_cons.mpr ⟨kp_getr, ?_⟩
  refine List.forall_mem_cons.mpr ⟨kp_iload, ?_⟩
  refine List.forall_mem_cons.mpr ⟨kp_ald, ?_⟩
  refine List.forall_mem_cons.mpr ⟨kp_ald, ?_⟩
  refine List.forall_mem_cons.mpr ⟨kp_zret, ?_⟩
  refine List.forall_mem_cons.mpr ⟨kp_aload, ?_⟩
  refine List.forall_mem_cons.mpr ⟨kp_getr, ?_⟩
  refine List.forall_mem_cons.mpr ⟨kp_iload, ?_⟩
  refine List.forall_mem_cons.mpr ⟨kp_ald, ?_⟩
  refine List.forall_mem_cons.mpr ⟨kp_const, ?_⟩
  refine List.forall_mem_cons.mpr ⟨kp_icmp, ?_⟩
  refine List.forall_mem_cons.mpr ⟨kp_aload, ?_⟩
  refine List.forall_mem_cons.mpr ⟨kp_iload, ?_⟩
  refine List.forall_mem_cons.mpr ⟨kp_callv, ?_⟩
  refine List.forall_mem_cons.mpr ⟨kp_iload, ?_⟩
  refine List.forall_mem_cons.mpr ⟨kp_icmp, ?_⟩
  refine List.forall_mem_cons.mpr ⟨kp_const, ?_⟩
  refine List.forall_mem_cons.mpr ⟨kp_goto, ?_⟩
  refine List.forall_mem_cons.mpr ⟨kp_const, ?_⟩
  refine List.forall_mem_cons.mpr ⟨kp_zret, ?_⟩
  refine List.forall_mem_cons.mpr ⟨kp_aload, ?_⟩
  refine List.forall_mem_cons.mpr ⟨kp_aload, ?_⟩
  refine List.forall_mem_cons.mpr ⟨kp_getr, ?_⟩
  refine List.forall_mem_cons.mpr ⟨kp_iload, ?_⟩
  refine List.forall_mem_cons.mpr ⟨kp_ald, ?_⟩
  refine List.forall_mem_cons.mpr ⟨kp_aload, ?_⟩
  refine List.forall_mem_cons.mpr ⟨kp_getr, ?_⟩
  refine List.forall_mem_cons.mpr ⟨kp_iload, ?_⟩
  refine List.forall_mem_cons.mpr ⟨kp_ald, ?_⟩
  refine List.forall_mem_cons.mpr ⟨kp_iload, ?_⟩
  refine List.forall_mem_cons.mpr ⟨kp_callv, ?_⟩
  refine List.forall_mem_cons.mpr ⟨kp_istore, ?_⟩
  refine List.forall_mem_cons.mpr ⟨kp_aload, ?_⟩
  refine List.forall_mem_cons.mpr ⟨kp_aload, ?_⟩
  refine List.forall_mem_cons.mpr ⟨kp_getr, ?_⟩
  refine List.forall_mem_cons.mpr ⟨kp_iload, ?_⟩
  refine List.forall_mem_cons.mpr ⟨kp_ald, ?_⟩
  refine List.forall_mem_cons.mpr ⟨kp_aload, ?_⟩
  refine List.forall_mem_cons.mpr ⟨kp_getr, ?_⟩
  refine List.forall_mem_cons.mpr ⟨kp_iload, ?_⟩
  refine List.forall_mem_cons.mpr ⟨kp_ald, ?_⟩
  refine List.forall_mem_cons.mpr ⟨kp_iload, ?_⟩
  refine List.forall_mem_cons.mpr ⟨kp_callv, ?_⟩
  refine List.forall_mem_cons.mpr ⟨kp_istore, ?_⟩
  refine List.forall_mem_cons.mpr ⟨kp_aload, ?_⟩
  refine List.forall_mem_cons.mpr ⟨kp_getr, ?_⟩
  refine List.forall_mem_cons.mpr ⟨kp_iload, ?_⟩
  refine List.forall_mem_cons.mpr ⟨kp_ald, ?_⟩
  refine List.forall_mem_cons.mpr ⟨kp_if, ?_⟩
  refine List.forall_mem_cons.mpr ⟨kp_iload, ?_⟩
  refine List.forall_mem_cons.mpr ⟨kp_iload, ?_⟩
  refine List.forall_mem_cons.mpr ⟨kp_icmp, ?_⟩
  refine List.forall_mem_cons.mpr ⟨kp_const, ?_⟩
  refine List.forall_mem_cons.mpr ⟨kp_goto, ?_⟩
  refine List.forall_mem_cons.mpr ⟨kp_const, ?_⟩
  refine List.forall_mem_cons.mpr ⟨kp_goto, ?_⟩
  refine List.forall_mem_cons.mpr ⟨kp_aload, ?_⟩
  refine List.forall_mem_cons.mpr ⟨kp_getr, ?_⟩
  refine List.forall_mem_cons.mpr ⟨kp_iload, ?_⟩
  refine List.forall_mem_cons.mpr ⟨kp_ald, ?_⟩
  refine List.forall_mem_cons.mpr ⟨kp_const, ?_⟩
  refine List.forall_mem_cons.mpr ⟨kp_icmp, ?_⟩
  refine List.forall_mem_cons.mpr ⟨kp_iload, ?_⟩
  refine List.forall_mem_cons.mpr ⟨kp_iload, ?_⟩
  refine List.forall_mem_cons.mpr ⟨kp_icmp, ?_⟩
  refine List.forall_mem_cons.mpr ⟨kp_const, ?_⟩
  refine List.forall_mem_cons.mpr ⟨kp_goto, ?_⟩
  refine List.forall_mem_cons.mpr ⟨kp_const, ?_⟩
  refine List.forall_mem_cons.mpr ⟨kp_goto, ?_⟩
  refine List.forall_mem_cons.mpr ⟨kp_aload, ?_⟩
  refine List.forall_mem_cons.mpr ⟨kp_getr, ?_⟩
  refine List.forall_mem_cons.mpr ⟨kp_iload, ?_⟩
  refine List.forall_mem_cons.mpr ⟨kp_ald, ?_⟩
  refine List.forall_mem_cons.mpr ⟨kp_const, ?_⟩
  refine List.forall_mem_cons.mpr ⟨kp_icmp, ?_⟩
  refine List.forall_mem_cons.mpr ⟨kp_iload, ?_⟩
  refine List.forall_mem_cons.mpr ⟨kp_iload, ?_⟩
  refine List.forall_mem_cons.mpr ⟨kp_icmp, ?_⟩
  refine List.forall_mem_cons.mpr ⟨kp_const, ?_⟩
  refine List.forall_mem_cons.mpr ⟨kp_goto, ?_⟩
  refine List.forall_mem_cons.mpr ⟨kp_const, ?_⟩
  refine List.forall_mem_cons.mpr ⟨kp_goto, ?_⟩
  refine List.forall_mem_cons.mpr ⟨kp_iload, ?_⟩
  refine List.forall_mem_cons.mpr ⟨kp_iload, ?_⟩
  refine List.forall_mem_cons.mpr ⟨kp_icmp, ?_⟩
  refine List.forall_mem_cons.mpr ⟨kp_const, ?_⟩
  refine List.forall_mem_cons.mpr ⟨kp_goto, ?_⟩
  refine List.forall_mem_cons.mpr ⟨kp_const, ?_⟩
  refine List.forall_mem_cons.mpr ⟨kp_zret, ?_⟩
  exact List.forall_mem_nil _
theorem kqX12_isHeld : ∀ q ∈ tX12_isHeld, KP q.2 := by
  unfold tX12_isHeld
  refine List.forall_mem_cons.mpr ⟨kp_const, ?_⟩
  refine List.forall_mem_cons.mpr ⟨kp_istore, ?_⟩
  refine List.forall_mem_cons.mpr ⟨kp_aload, ?_⟩
  refine List.forall_mem_cons.mpr ⟨kp_getr, ?_⟩
  refine List.forall_mem_cons.mpr ⟨kp_const, ?_⟩
  refine List.forall_mem_cons.mpr ⟨kp_aload, ?_⟩
  refine List.forall_mem_cons.mpr ⟨kp_geti, ?_⟩
  refine List.forall_mem_cons.mpr ⟨kp_bin (f := fun x y => x * y), ?_⟩
  refine List.forall_mem_cons.mpr ⟨kp_iload, ?_⟩
  refine List.forall_mem_cons.mpr ⟨kp_bin (f := fun x y => x + y), ?_⟩
  refine List.forall_mem_cons.mpr ⟨kp_ald, ?_⟩
  refine List.forall_mem_cons.mpr ⟨kp_istore, ?_⟩
  refine List.forall_mem_cons.mpr ⟨kp_iload, ?_⟩
  refine List.forall_mem_cons.mpr ⟨kp_aload, ?_⟩
  refine List.forall_mem_cons.mpr ⟨kp_getr, ?_⟩
  refine List.forall_mem_cons.mpr ⟨kp_const, ?_⟩
  refine List.forall_mem_cons.mpr ⟨kp_aload, ?_⟩
  refine List.forall_mem_cons.mpr ⟨kp_geti, ?_⟩
  refine List.forall_mem_cons.mpr ⟨kp_bin (f := fun x y => x * y), ?_⟩
  refine List.forall_mem_cons.mpr ⟨kp_iload, ?_⟩
  refine List.forall_mem_cons.mpr ⟨kp_bin (f := fun x y => x + y), ?_⟩
  refine List.forall_mem_cons.mpr ⟨kp_const, ?_⟩
  refine List.forall_mem_cons.mpr ⟨kp_bin (f := fun x y => x + y), ?_⟩
  refine List.forall_mem_cons.mpr ⟨kp_ald, ?_⟩
  refine List.forall_mem_cons.mpr ⟨kp_icmp, ?_⟩
  refine List.forall_mem_cons.mpr ⟨kp_const, ?_⟩
  refine List.forall_mem_cons.mpr ⟨kp_aload, ?_⟩
  refine List.forall_mem_cons.mpr ⟨kp_geti, ?_⟩
  refine List.forall_mem_cons.mpr ⟨kp_bin (f := fun x y => x * y), ?_⟩
  refine List.forall_mem_cons.mpr ⟨kp_iload, ?_⟩
  refine List.forall_mem_cons.mpr ⟨kp_bin (f := fun x y => x + y), ?_⟩
  refine List.forall_mem_cons.mpr ⟨kp_istore, ?_⟩
  refine List.forall_mem_cons.mpr ⟨kp_aload, ?_⟩
  refine List.forall_mem_cons.mpr ⟨kp_getr, ?_⟩
  refine List.forall_mem_cons.mpr ⟨kp_iload, ?_⟩
  refine List.forall_mem_cons.mpr ⟨kp_ald, ?_⟩
  refine List.forall_mem_cons.mpr ⟨kp_if, ?_⟩
  refine List.forall_mem_cons.mpr ⟨kp_iload, ?_⟩
  refine List.forall_mem_cons.mpr ⟨kp_if, ?_⟩
  refine List.forall_mem_cons.mpr ⟨kp_const, ?_⟩
  refine List.forall_mem_cons.mpr ⟨kp_zret, ?_⟩
  refine List.forall_mem_cons.mpr ⟨kp_aload, ?_⟩
  refine List.forall_mem_cons.mpr ⟨kp_getr, ?_⟩
  refine List.forall_mem_cons.mpr ⟨kp_iload, ?_⟩
  refine List.forall_mem_cons.mpr ⟨kp_ald, ?_⟩
  refine List.forall_mem_cons.mpr ⟨kp_if, ?_⟩
  refine List.forall_mem_cons.mpr ⟨kp_const, ?_⟩
  refine List.forall_mem_cons.mpr ⟨kp_istore, ?_⟩
  refine List.forall_mem_cons.mpr ⟨kp_iload, ?_⟩
  refine List.forall_mem_cons.mpr ⟨kp_if, ?_⟩
  refine List.forall_mem_cons.mpr ⟨kp_aload, ?_⟩
  refine List.forall_mem_cons.mpr ⟨kp_iload, ?_⟩
  refine List.forall_mem_cons.mpr ⟨kp_iload, ?_⟩
  refine List.forall_mem_cons.mpr ⟨kp_callv, ?_⟩
  refine List.forall_mem_cons.mpr ⟨kp_if, ?_⟩
  refine List.forall_mem_cons.mpr ⟨kp_const, ?_⟩
  refine List.forall_mem_cons.mpr ⟨kp_goto, ?_⟩
  refine List.forall_mem_cons.mpr ⟨kp_const, ?_⟩
  refine List.forall_mem_cons.mpr ⟨kp_istore, ?_⟩
  refine List.forall_mem_cons.mpr ⟨kp_iinc, ?_⟩
  refine List.forall_mem_cons.mpr ⟨kp_goto, ?_⟩
  refine List.forall_mem_cons.mpr ⟨kp_iload, ?_⟩
  refine List.forall_mem_cons.mpr ⟨kp_zret, ?_⟩
  exact List.forall_mem_nil _
theorem kqX12_weightOf : ∀ q ∈ tX12_weightOf, KP q.2 := by
  unfold tX12_weightOf
  refine List.forall_mem_cons.mpr ⟨kp_const, ?_⟩
  refine List.forall_mem_cons.mpr ⟨kp_istore, ?_⟩
  refine List.forall_mem_cons.mpr ⟨kp_const, ?_⟩
  refine List.forall_mem_cons.mpr ⟨kp_istore, ?_⟩
  refine List.forall_mem_cons.mpr ⟨kp_iload, ?_⟩
  refine List.forall_mem_cons.mpr ⟨kp_aload, ?_⟩
  refine List.forall_mem_cons.mpr ⟨kp_getr, ?_⟩
  refine List.forall_mem_cons.mpr ⟨kp_aload, ?_⟩
  refine List.forall_mem_cons.mpr ⟨kp_geti, ?_⟩
  refine List.forall_mem_cons.mpr ⟨kp_ald, ?_⟩
  refine List.forall_mem_cons.mpr ⟨kp_icmp, ?_⟩
  refine List.forall_mem_cons.mpr ⟨kp_aload, ?_⟩
  refine List.forall_mem_cons.mpr ⟨kp_getr, ?_⟩
  refine List.forall_mem_cons.mpr ⟨kp_const, ?_⟩
  refine List.forall_mem_cons.mpr ⟨kp_aload, ?_⟩
  refine List.forall_mem_cons.mpr ⟨kp_geti, ?_⟩
  refine List.forall_mem_cons.mpr ⟨kp_bin (f := fun x y => x * y), ?_⟩
  refine List.forall_mem_cons.mpr ⟨kp_iload, ?_⟩
  refine List.forall_mem_cons.mpr ⟨kp_bin (f := fun x y => x + y), ?_⟩
  refine List.forall_mem_cons.mpr ⟨kp_ald, ?_⟩
  refine List.forall_mem_cons.mpr ⟨kp_istore, ?_⟩
  refine List.forall_mem_cons.mpr ⟨kp_iload, ?_⟩
  refine List.forall_mem_cons.mpr ⟨kp_if, ?_⟩
  refine List.forall_mem_cons.mpr ⟨kp_iload, ?_⟩
  refine List.forall_mem_cons.mpr ⟨kp_iload, ?_⟩
  refine List.forall_mem_cons.mpr ⟨kp_icmp, ?_⟩
  refine List.forall_mem_cons.mpr ⟨kp_aload, ?_⟩
  refine List.forall_mem_cons.mpr ⟨kp_iload, ?_⟩
  refine List.forall_mem_cons.mpr ⟨kp_iload, ?_⟩
  refine List.forall_mem_cons.mpr ⟨kp_callv, ?_⟩
  refine List.forall_mem_cons.mpr ⟨kp_if, ?_⟩
  refine List.forall_mem_cons.mpr ⟨kp_goto, ?_⟩
  refine List.forall_mem_cons.mpr ⟨kp_iload, ?_⟩
  refine List.forall_mem_cons.mpr ⟨kp_if, ?_⟩
  refine List.forall_mem_cons.mpr ⟨kp_const, ?_⟩
  refine List.forall_mem_cons.mpr ⟨kp_iret, ?_⟩
  refine List.forall_mem_cons.mpr ⟨kp_iload, ?_⟩
  refine List.forall_mem_cons.mpr ⟨kp_istore, ?_⟩
  refine List.forall_mem_cons.mpr ⟨kp_iinc, ?_⟩
  refine List.forall_mem_cons.mpr ⟨kp_goto, ?_⟩
  refine List.forall_mem_cons.mpr ⟨kp_iload, ?_⟩
  refine List.forall_mem_cons.mpr ⟨kp_iret, ?_⟩
  exact List.forall_mem_nil _
theorem kqX12_showings : ∀ q ∈ tX12_showings, KP q.2 := by
  unfold tX12_showings
  refine List.forall_mem_cons.mpr ⟨kp_aload, ?_⟩
  refine List.forall_mem_cons.mpr ⟨kp_iload, ?_⟩
  refine List.forall_mem_cons.mpr ⟨kp_callv, ?_⟩
  refine List.forall_mem_cons.mpr ⟨kp_if, ?_⟩
  refine List.forall_mem_cons.mpr ⟨kp_const, ?_⟩
  refine List.forall_mem_cons.mpr ⟨kp_iret, ?_⟩
  refine List.forall_mem_cons.mpr ⟨kp_aload, ?_⟩
  refine List.forall_mem_cons.mpr ⟨kp_iload, ?_⟩
  refine List.forall_mem_cons.mpr ⟨kp_callv, ?_⟩
  refine List.forall_mem_cons.mpr ⟨kp_aload, ?_⟩
  refine List.forall_mem_cons.mpr ⟨kp_geti, ?_⟩
  refine List.forall_mem_cons.mpr ⟨kp_iret, ?_⟩
  exact List.forall_mem_nil _
theorem kqX12_showing : ∀ q ∈ tX12_showing, KP q.2 := by
  unfold tX12_showing
  refine List.forall_mem_cons.mpr ⟨kp_aload, ?_⟩
  refine List.forall_mem_cons.mpr ⟨kp_iload, ?_⟩
  refine List.forall_mem_cons.mpr ⟨kp_callv, ?_⟩
  refine List.forall_mem_cons.mpr ⟨kp_if, ?_⟩
  refine List.forall_mem_cons.mpr ⟨kp_iload, ?_⟩
  refine List.forall_mem_cons.mpr ⟨kp_if, ?_⟩
  refine List.forall_mem_cons.mpr ⟨kp_const, ?_⟩
  refine List.forall_mem_cons.mpr ⟨kp_iret, ?_⟩
  refine List.forall_mem_cons.mpr ⟨kp_aload, ?_⟩
  refine List.forall_mem_cons.mpr ⟨kp_iload, ?_⟩
  refine List.forall_mem_cons.mpr ⟨kp_callv, ?_⟩
  refine List.forall_mem_cons.mpr ⟨kp_iload, ?_⟩
  refine List.forall_mem_cons.mpr ⟨kp_aload, ?_⟩
  refine List.forall_mem_cons.mpr ⟨kp_geti, ?_⟩
  refine List.forall_mem_cons.mpr ⟨kp_icmp, ?_⟩
  refine List.forall_mem_cons.mpr ⟨kp_const, ?_⟩
  refine List.forall_mem_cons.mpr ⟨kp_iret, ?_⟩
  refine List.forall_mem_cons.mpr ⟨kp_aload, ?_⟩
  refine List.forall_mem_cons.mpr ⟨kp_getr, ?_⟩
  refine List.forall_mem_cons.mpr ⟨kp_iload, ?_⟩
  refine List.forall_mem_cons.mpr ⟨kp_ald, ?_⟩
  refine List.forall_mem_cons.mpr ⟨kp_istore, ?_⟩
  refine List.forall_mem_cons.mpr ⟨kp_iload, ?_⟩
  refine List.forall_mem_cons.mpr ⟨kp_sw, ?_⟩
  refine List.forall_mem_cons.mpr ⟨kp_iload, ?_⟩
  refine List.forall_mem_cons.mpr ⟨kp_iret, ?_⟩
  refine List.forall_mem_cons.mpr ⟨kp_aload, ?_⟩
  refine List.forall_mem_cons.mpr ⟨kp_getr, ?_⟩
  refine List.forall_mem_cons.mpr ⟨kp_iload, ?_⟩
  refine List.forall_mem_cons.mpr ⟨kp_ald, ?_⟩
  refine List.forall_mem_cons.mpr ⟨kp_iret, ?_⟩
  refine List.forall_mem_cons.mpr ⟨kp_aload, ?_⟩
  refine List.forall_mem_cons.mpr ⟨kp_getr, ?_⟩
  refine List.forall_mem_cons.mpr ⟨kp_iload, ?_⟩
  refine List.forall_mem_cons.mpr ⟨kp_ald, ?_⟩
  refine List.forall_mem_cons.mpr ⟨kp_iret, ?_⟩
  refine List.forall_mem_cons.mpr ⟨kp_aload, ?_⟩
  refine List.forall_mem_cons.mpr ⟨kp_getr, ?_⟩
  refine List.forall_mem_cons.mpr ⟨kp_iload, ?_⟩
  refine List.forall_mem_cons.mpr ⟨kp_ald, ?_⟩
  refine List.forall_mem_cons.mpr ⟨kp_iret, ?_⟩
  refine List.forall_mem_cons.mpr ⟨kp_aload, ?_⟩
  refine List.forall_mem_cons.mpr ⟨kp_getr, ?_⟩
  refine List.forall_mem_cons.mpr ⟨kp_iload, ?_⟩
  refine List.forall_mem_cons.mpr ⟨kp_ald, ?_⟩
  refine List.forall_mem_cons.mpr ⟨kp_iret, ?_⟩
  refine List.forall_mem_cons.mpr ⟨kp_aload, ?_⟩
  refine List.forall_mem_cons.mpr ⟨kp_getr, ?_⟩
  refine List.forall_mem_cons.mpr ⟨kp_iload, ?_⟩
  refine List.forall_mem_cons.mpr ⟨kp_ald, ?_⟩
  refine List.forall_mem_cons.mpr ⟨kp_iret, ?_⟩
  refine List.forall_mem_cons.mpr ⟨kp_aload, ?_⟩
  refine List.forall_mem_cons.mpr ⟨kp_iload, ?_⟩
  refine List.forall_mem_cons.mpr ⟨kp_callv, ?_⟩
  refine List.forall_mem_cons.mpr ⟨kp_iret, ?_⟩
  refine List.forall_mem_cons.mpr ⟨kp_aload, ?_⟩
  refine List.forall_mem_cons.mpr ⟨kp_iload, ?_⟩
  refine List.forall_mem_cons.mpr ⟨kp_callv, ?_⟩
  refine List.forall_mem_cons.mpr ⟨kp_iret, ?_⟩
  refine List.forall_mem_cons.mpr ⟨kp_const, ?_⟩
  refine List.forall_mem_cons.mpr ⟨kp_istore, ?_⟩
  refine List.forall_mem_cons.mpr ⟨kp_iload, ?_⟩
  refine List.forall_mem_cons.mpr ⟨kp_aload, ?_⟩
  refine List.forall_mem_cons.mpr ⟨kp_geti, ?_⟩
  refine List.forall_mem_cons.mpr ⟨kp_icmp, ?_⟩
  refine List.forall_mem_cons.mpr ⟨kp_iload, ?_⟩
  refine List.forall_mem_cons.mpr ⟨kp_iload, ?_⟩
  refine List.forall_mem_cons.mpr ⟨kp_icmp, ?_⟩
  refine List.forall_mem_cons.mpr ⟨kp_aload, ?_⟩
  refine List.forall_mem_cons.mpr ⟨kp_getr, ?_⟩
  refine List.forall_mem_cons.mpr ⟨kp_aload, ?_⟩
  refine List.forall_mem_cons.mpr ⟨kp_getr, ?_⟩
  refine List.forall_mem_cons.mpr ⟨kp_iload, ?_⟩
  refine List.forall_mem_cons.mpr ⟨kp_ald, ?_⟩
  refine List.forall_mem_cons.mpr ⟨kp_ald, ?_⟩
  refine List.forall_mem_cons.mpr ⟨kp_aload, ?_⟩
  refine List.forall_mem_cons.mpr ⟨kp_getr, ?_⟩
  refine List.forall_mem_cons.mpr ⟨kp_iload, ?_⟩
  refine List.forall_mem_cons.mpr ⟨kp_ald, ?_⟩
  refine List.forall_mem_cons.mpr ⟨kp_icmp, ?_⟩
  refine List.forall_mem_cons.mpr ⟨kp_aload, ?_⟩
  refine List.forall_mem_cons.mpr ⟨kp_getr, ?_⟩
  refine List.forall_mem_cons.mpr ⟨kp_iload, ?_⟩
  refine List.forall_mem_cons.mpr ⟨kp_ald, ?_⟩
  refine List.forall_mem_cons.mpr ⟨kp_if, ?_⟩
  refine List.forall_mem_cons.mpr ⟨kp_aload, ?_⟩
  refine List.forall_mem_cons.mpr ⟨kp_getr, ?_⟩
  refine List.forall_mem_cons.mpr ⟨kp_aload, ?_⟩
  refine List.forall_mem_cons.mpr ⟨kp_getr, ?_⟩
  refine List.forall_mem_cons.mpr ⟨kp_iload, ?_⟩
  refine List.forall_mem_cons.mpr ⟨kp_ald, ?_⟩
  refine List.forall_mem_cons.mpr ⟨kp_ald, ?_⟩
  refine List.forall_mem_cons.mpr ⟨kp_if, ?_⟩
  refine List.forall_mem_cons.mpr ⟨kp_iload, ?_⟩
  refine List.forall_mem_cons.mpr ⟨kp_iret, ?_⟩
  refine List.forall_mem_cons.mpr ⟨kp_iinc, ?_⟩
  refine List.forall_mem_cons.mpr ⟨kp_goto, ?_⟩
  refine List.forall_mem_cons.mpr ⟨kp_const, ?_⟩
  refine List.forall_mem_cons.mpr ⟨kp_iret, ?_⟩
  refine List.forall_mem_cons.mpr ⟨kp_const, ?_⟩
  refine List.forall_mem_cons.mpr ⟨kp_iret, ?_⟩
  exact List.forall_mem_nil _
theorem kqX12_holds : ∀ q ∈ tX12_holds, KP q.2 := by
  unfold tX12_holds
  refine List.forall_mem_cons.mpr ⟨kp_iload, ?_⟩
  refine List.forall_mem_cons.mpr ⟨kp_if, ?_⟩
  refine List.forall_mem_cons.mpr ⟨kp_iload, ?_⟩
  refine List.forall_mem_cons.mpr ⟨kp_aload, ?_⟩
  refine List.forall_mem_cons.mpr ⟨kp_getr, ?_⟩
  refine List.forall_mem_cons.mpr ⟨kp_aload, ?_⟩
  refine List.forall_mem_cons.mpr ⟨kp_geti, ?_⟩
  refine List.forall_mem_cons.mpr ⟨kp_ald, ?_⟩
  refine List.forall_mem_cons.mpr ⟨kp_icmp, ?_⟩
  refine List.forall_mem_cons.mpr ⟨kp_aload, ?_⟩
  refine List.forall_mem_cons.mpr ⟨kp_iload, ?_⟩
  refine List.forall_mem_cons.mpr ⟨kp_callv, ?_⟩
  refine List.forall_mem_cons.mpr ⟨kp_if, ?_⟩
  refine List.forall_mem_cons.mpr ⟨kp_iload, ?_⟩
  refine List.forall_mem_cons.mpr ⟨kp_if, ?_⟩
  refine List.forall_mem_cons.mpr ⟨kp_const, ?_⟩
  refine List.forall_mem_cons.mpr ⟨kp_iret, ?_⟩
  refine List.forall_mem_cons.mpr ⟨kp_aload, ?_⟩
  refine List.forall_mem_cons.mpr ⟨kp_iload, ?_⟩
  refine List.forall_mem_cons.mpr ⟨kp_callv, ?_⟩
  refine List.forall_mem_cons.mpr ⟨kp_iload, ?_⟩
  refine List.forall_mem_cons.mpr ⟨kp_aload, ?_⟩
  refine List.forall_mem_cons.mpr ⟨kp_geti, ?_⟩
  refine List.forall_mem_cons.mpr ⟨kp_icmp, ?_⟩
  refine List.forall_mem_cons.mpr ⟨kp_const, ?_⟩
  refine List.forall_mem_cons.mpr ⟨kp_goto, ?_⟩
  refine List.forall_mem_cons.mpr ⟨kp_aload, ?_⟩
  refine List.forall_mem_cons.mpr ⟨kp_iload, ?_⟩
  refine List.forall_mem_cons.mpr ⟨kp_iload, ?_⟩
  refine List.forall_mem_cons.mpr ⟨kp_callv, ?_⟩
  refine List.forall_mem_cons.mpr ⟨kp_if, ?_⟩
  refine List.forall_mem_cons.mpr ⟨kp_const, ?_⟩
  refine List.forall_mem_cons.mpr ⟨kp_goto, ?_⟩
  refine List.forall_mem_cons.mpr ⟨kp_const, ?_⟩
  refine List.forall_mem_cons.mpr ⟨kp_iret, ?_⟩
  exact List.forall_mem_nil _
theorem kqX12_begins : ∀ q ∈ tX12_begins, KP q.2 := by
  unfold tX12_begins
  refine List.forall_mem_cons.mpr ⟨kp_aload, ?_⟩
  refine List.forall_mem_cons.mpr ⟨kp_const, ?_⟩
  refine List.forall_mem_cons.mpr ⟨kp_puti, ?_⟩
  refine List.forall_mem_cons.mpr ⟨kp_aload, ?_⟩
  refine List.forall_mem_cons.mpr ⟨kp_geti, ?_⟩
  refine List.forall_mem_cons.mpr ⟨kp_const, ?_⟩
  refine List.forall_mem_cons.mpr ⟨kp_icmp, ?_⟩
  refine List.forall_mem_cons.mpr ⟨kp_vret, ?_⟩
  refine List.forall_mem_cons.mpr ⟨kp_const, ?_⟩
  refine List.forall_mem_cons.mpr ⟨kp_istore, ?_⟩
  refine List.forall_mem_cons.mpr ⟨kp_iload, ?_⟩
  refine List.forall_mem_cons.mpr ⟨kp_aload, ?_⟩
  refine List.forall_mem_cons.mpr ⟨kp_geti, ?_⟩
  refine List.forall_mem_cons.mpr ⟨kp_icmp, ?_⟩
  refine List.forall_mem_cons.mpr ⟨kp_aload, ?_⟩
  refine List.forall_mem_cons.mpr ⟨kp_geti, ?_⟩
  refine List.forall_mem_cons.mpr ⟨kp_iload, ?_⟩
  refine List.forall_mem_cons.mpr ⟨kp_bin (f := fun x y => x >>> (y &&& 31)), ?_⟩
  refine List.forall_mem_cons.mpr ⟨kp_const, ?_⟩
  refine List.forall_mem_cons.mpr ⟨kp_bin (f := fun x y => x &&& y), ?_⟩
  refine List.forall_mem_cons.mpr ⟨kp_if, ?_⟩
  refine List.forall_mem_cons.mpr ⟨kp_aload, ?_⟩
  refine List.forall_mem_cons.mpr ⟨kp_getr, ?_⟩
  refine List.forall_mem_cons.mpr ⟨kp_iload, ?_⟩
  refine List.forall_mem_cons.mpr ⟨kp_ald, ?_⟩
  refine List.forall_mem_cons.mpr ⟨kp_aload, ?_⟩
  refine List.forall_mem_cons.mpr ⟨kp_geti, ?_⟩
  refine List.forall_mem_cons.mpr ⟨kp_icmp, ?_⟩
  refine List.forall_mem_cons.mpr ⟨kp_goto, ?_⟩
  refine List.forall_mem_cons.mpr ⟨kp_aload, ?_⟩
  refine List.forall_mem_cons.mpr ⟨kp_getr, ?_⟩
  refine List.forall_mem_cons.mpr ⟨kp_aload, ?_⟩
  refine List.forall_mem_cons.mpr ⟨kp_geti, ?_⟩
  refine List.forall_mem_cons.mpr ⟨kp_aload, ?_⟩
  refine List.forall_mem_cons.mpr ⟨kp_getr, ?_⟩
  refine List.forall_mem_cons.mpr ⟨kp_iload, ?_⟩
  refine List.forall_mem_cons.mpr ⟨kp_ald, ?_⟩
  refine List.forall_mem_cons.mpr ⟨kp_iast, ?_⟩
  refine List.forall_mem_cons.mpr ⟨kp_aload, ?_⟩
  refine List.forall_mem_cons.mpr ⟨kp_getr, ?_⟩
  refine List.forall_mem_cons.mpr ⟨kp_aload, ?_⟩
  refine List.forall_mem_cons.mpr ⟨kp_geti, ?_⟩
  refine List.forall_mem_cons.mpr ⟨kp_aload, ?_⟩
  refine List.forall_mem_cons.mpr ⟨kp_getr, ?_⟩
  refine List.forall_mem_cons.mpr ⟨kp_iload, ?_⟩
  refine List.forall_mem_cons.mpr ⟨kp_ald, ?_⟩
  refine List.forall_mem_cons.mpr ⟨kp_iast, ?_⟩
  refine List.forall_mem_cons.mpr ⟨kp_aload, ?_⟩
  refine List.forall_mem_cons.mpr ⟨kp_getr, ?_⟩
  refine List.forall_mem_cons.mpr ⟨kp_aload, ?_⟩
  refine List.forall_mem_cons.mpr ⟨kp_geti, ?_⟩
  refine List.forall_mem_cons.mpr ⟨kp_aload, ?_⟩
  refine List.forall_mem_cons.mpr ⟨kp_getr, ?_⟩
  refine List.forall_mem_cons.mpr ⟨kp_iload, ?_⟩
  refine List.forall_mem_cons.mpr ⟨kp_ald, ?_⟩
  refine List.forall_mem_cons.mpr ⟨kp_iast, ?_⟩
  refine List.forall_mem_cons.mpr ⟨kp_aload, ?_⟩
  refine List.forall_mem_cons.mpr ⟨kp_getr, ?_⟩
  refine List.forall_mem_cons.mpr ⟨kp_aload, ?_⟩
  refine List.forall_mem_cons.mpr ⟨kp_geti, ?_⟩
  refine List.forall_mem_cons.mpr ⟨kp_aload, ?_⟩
  refine List.forall_mem_cons.mpr ⟨kp_getr, ?_⟩
  refine List.forall_mem_cons.mpr ⟨kp_iload, ?_⟩
  refine List.forall_mem_cons.mpr ⟨kp_ald, ?_⟩
  refine List.forall_mem_cons.mpr ⟨kp_iast, ?_⟩
  refine List.forall_mem_cons.mpr ⟨kp_aload, ?_⟩
  refine List.forall_mem_cons.mpr ⟨kp_dup, ?_⟩
  refine List.forall_mem_cons.mpr ⟨kp_geti, ?_⟩
  refine List.forall_mem_cons.mpr ⟨kp_const, ?_⟩
  refine List.forall_mem_cons.mpr ⟨kp_bin (f := fun x y => x + y), ?_⟩
  refine List.forall_mem_cons.mpr ⟨kp_puti, ?_⟩
  refine List.forall_mem_cons.mpr ⟨kp_iinc, ?_⟩
  refine List.forall_mem_cons.mpr ⟨kp_goto, ?_⟩
  refine List.forall_mem_cons.mpr ⟨kp_vret, ?_⟩
  exact List.forall_mem_nil _
theorem kqX12_meet : ∀ q ∈ tX12_meet, KP q.2 := by
  unfold tX12_meet
  refine List.forall_mem_cons.mpr ⟨kp_aload, ?_⟩
  refine List.forall_mem_cons.mpr ⟨kp_getr, ?_⟩
  refine List.forall_mem_cons.mpr ⟨kp_iload, ?_⟩
  refine List.forall_mem_cons.mpr ⟨kp_ald, ?_⟩
  refine List.forall_mem_cons.mpr ⟨kp_aload, ?_⟩
  refine List.forall_mem_cons.mpr ⟨kp_getr, ?_⟩
  refine List.forall_mem_cons.mpr ⟨kp_iload, ?_⟩
  refine List.forall_mem_cons.mpr ⟨kp_ald, ?_⟩
  refine List.forall_mem_cons.mpr ⟨kp_icmp, ?_⟩
  refine List.forall_mem_cons.mpr ⟨kp_aload, ?_⟩
  refine List.forall_mem_cons.mpr ⟨kp_getr, ?_⟩
  refine List.forall_mem_cons.mpr ⟨kp_iload, ?_⟩
  refine List.forall_mem_cons.mpr ⟨kp_ald, ?_⟩
  refine List.forall_mem_cons.mpr ⟨kp_aload, ?_⟩
  refine List.forall_mem_cons.mpr ⟨kp_getr, ?_⟩
  refine List.forall_mem_cons.mpr ⟨kp_iload, ?_⟩
  refine List.forall_mem_cons.mpr ⟨kp_ald, ?_⟩
  refine List.forall_mem_cons.mpr ⟨kp_icmp, ?_⟩
  refine List.forall_mem_cons.mpr ⟨kp_const, ?_⟩
  refine List.forall_mem_cons.mpr ⟨kp_goto, ?_⟩
  refine List.forall_mem_cons.mpr ⟨kp_const, ?_⟩
  refine List.forall_mem_cons.mpr ⟨kp_zret, ?_⟩
  exact List.forall_mem_nil _
theorem kqX12_areAlike : ∀ q ∈ tX12_areAlike, KP q.2 := by
  unfold tX12_areAlike
  refine List.forall_mem_cons.mpr ⟨kp_aload, ?_⟩
  refine List.forall_mem_cons.mpr ⟨kp_getr, ?_⟩
  refine List.forall_mem_cons.mpr ⟨kp_iload, ?_⟩
  refine List.forall_mem_cons.mpr ⟨kp_ald, ?_⟩
  refine List.forall_mem_cons.mpr ⟨kp_aload, ?_⟩
  refine List.forall_mem_cons.mpr ⟨kp_getr, ?_⟩
  refine List.forall_mem_cons.mpr ⟨kp_iload, ?_⟩
  refine List.forall_mem_cons.mpr ⟨kp_ald, ?_⟩
  refine List.forall_mem_cons.mpr ⟨kp_icmp, ?_⟩
  refine List.forall_mem_cons.mpr ⟨kp_aload, ?_⟩
  refine List.forall_mem_cons.mpr ⟨kp_getr, ?_⟩
  refine List.forall_mem_cons.mpr ⟨kp_iload, ?_⟩
  refine List.forall_mem_cons.mpr ⟨kp_ald, ?_⟩
  refine List.forall_mem_cons.mpr ⟨kp_aload, ?_⟩
  refine List.forall_mem_cons.mpr ⟨kp_getr, ?_⟩
  refine List.forall_mem_cons.mpr ⟨kp_iload, ?_⟩
  refine List.forall_mem_cons.mpr ⟨kp_ald, ?_⟩
  refine List.forall_mem_cons.mpr ⟨kp_icmp, ?_⟩
  refine List.forall_mem_cons.mpr ⟨kp_aload, ?_⟩
  refine List.forall_mem_cons.mpr ⟨kp_getr, ?_⟩
  refine List.forall_mem_cons.mpr ⟨kp_iload, ?_⟩
  refine List.forall_mem_cons.mpr ⟨kp_ald, ?_⟩
  refine List.forall_mem_cons.mpr ⟨kp_if, ?_⟩
  refine List.forall_mem_cons.mpr ⟨kp_const, ?_⟩
  refine List.forall_mem_cons.mpr ⟨kp_goto, ?_⟩
  refine List.forall_mem_cons.mpr ⟨kp_const, ?_⟩
  refine List.forall_mem_cons.mpr ⟨kp_zret, ?_⟩
  exact List.forall_mem_nil _
theorem kqX12_roomOf : ∀ q ∈ tX12_roomOf, KP q.2 := by
  unfold tX12_roomOf
  refine List.forall_mem_cons.mpr ⟨kp_const, ?_⟩
  refine List.forall_mem_cons.mpr ⟨kp_istore, ?_⟩
  refine List.forall_mem_cons.mpr ⟨kp_const, ?_⟩
  refine List.forall_mem_cons.mpr ⟨kp_istore, ?_⟩
  refine List.forall_mem_cons.mpr ⟨kp_iload, ?_⟩
  refine List.forall_mem_cons.mpr ⟨kp_aload, ?_⟩
  refine List.forall_mem_cons.mpr ⟨kp_geti, ?_⟩
  refine List.forall_mem_cons.mpr ⟨kp_icmp, ?_⟩
  refine List.forall_mem_cons.mpr ⟨kp_iload, ?_⟩
  refine List.forall_mem_cons.mpr ⟨kp_iload, ?_⟩
  refine List.forall_mem_cons.mpr ⟨kp_bin (f := fun x y => x >>> (y &&& 31)), ?_⟩
  refine List.forall_mem_cons.mpr ⟨kp_const, ?_⟩
  refine List.forall_mem_cons.mpr ⟨kp_bin (f := fun x y => x &&& y), ?_⟩
  refine List.forall_mem_cons.mpr ⟨kp_const, ?_⟩
  refine List.forall_mem_cons.mpr ⟨kp_icmp, ?_⟩
  refine List.forall_mem_cons.mpr ⟨kp_iload, ?_⟩
  refine List.forall_mem_cons.mpr ⟨kp_aload, ?_⟩
  refine List.forall_mem_cons.mpr ⟨kp_getr, ?_⟩
  refine List.forall_mem_cons.mpr ⟨kp_iload, ?_⟩
  refine List.forall_mem_cons.mpr ⟨kp_ald, ?_⟩
  refine List.forall_mem_cons.mpr ⟨kp_aload, ?_⟩
  refine List.forall_mem_cons.mpr ⟨kp_getr, ?_⟩
  refine List.forall_mem_cons.mpr ⟨kp_iload, ?_⟩
  refine List.forall_mem_cons.mpr ⟨kp_ald, ?_⟩
  refine List.forall_mem_cons.mpr ⟨kp_bin (f := fun x y => x - y), ?_⟩
  refine List.forall_mem_cons.mpr ⟨kp_bin (f := fun x y => x + y), ?_⟩
  refine List.forall_mem_cons.mpr ⟨kp_istore, ?_⟩
  refine List.forall_mem_cons.mpr ⟨kp_iinc, ?_⟩
  refine List.forall_mem_cons.mpr ⟨kp_goto, ?_⟩
  refine List.forall_mem_cons.mpr ⟨kp_iload, ?_⟩
  refine List.forall_mem_cons.mpr ⟨kp_iret, ?_⟩
  exact List.forall_mem_nil _
theorem kqX12_isThin : ∀ q ∈ tX12_isThin, KP q.2 := by
  unfold tX12_isThin
  refine List.forall_mem_cons.mpr ⟨kp_const, ?_⟩
  refine List.forall_mem_cons.mpr ⟨kp_istore, ?_⟩
  refine List.forall_mem_cons.mpr ⟨kp_iload, ?_⟩
  refine List.forall_mem_cons.mpr ⟨kp_aload, ?_⟩
  refine List.forall_mem_cons.mpr ⟨kp_geti, ?_⟩
  refine List.forall_mem_cons.mpr ⟨kp_icmp, ?_⟩
  refine List.forall_mem_cons.mpr ⟨kp_iload, ?_⟩
  refine List.forall_mem_cons.mpr ⟨kp_iload, ?_⟩
  refine List.forall_mem_cons.mpr ⟨kp_bin (f := fun x y => x >>> (y &&& 31)), ?_⟩
  refine List.forall_mem_cons.mpr ⟨kp_const, ?_⟩
  refine List.forall_mem_cons.mpr ⟨kp_bin (f := fun x y => x &&& y), ?_⟩
  refine List.forall_mem_cons.mpr ⟨kp_if, ?_⟩
  refine List.forall_mem_cons.mpr ⟨kp_goto, ?_⟩
  refine List.forall_mem_cons.mpr ⟨kp_const, ?_⟩
  refine List.forall_mem_cons.mpr ⟨kp_istore, ?_⟩
  refine List.forall_mem_cons.mpr ⟨kp_const, ?_⟩
  refine List.forall_mem_cons.mpr ⟨kp_istore, ?_⟩
  refine List.forall_mem_cons.mpr ⟨kp_iload, ?_⟩
  refine List.forall_mem_cons.mpr ⟨kp_aload, ?_⟩
  refine List.forall_mem_cons.mpr ⟨kp_geti, ?_⟩
  refine List.forall_mem_cons.mpr ⟨kp_icmp, ?_⟩
  refine List.forall_mem_cons.mpr ⟨kp_iload, ?_⟩
  refine List.forall_mem_cons.mpr ⟨kp_iload, ?_⟩
  refine List.forall_mem_cons.mpr ⟨kp_bin (f := fun x y => x >>> (y &&& 31)), ?_⟩
  refine List.forall_mem_cons.mpr ⟨kp_const, ?_⟩
  refine List.forall_mem_cons.mpr ⟨kp_bin (f := fun x y => x &&& y), ?_⟩
  refine List.forall_mem_cons.mpr ⟨kp_const, ?_⟩
  refine List.forall_mem_cons.mpr ⟨kp_icmp, ?_⟩
  refine List.forall_mem_cons.mpr ⟨kp_aload, ?_⟩
  refine List.forall_mem_cons.mpr ⟨kp_getr, ?_⟩
  refine List.forall_mem_cons.mpr ⟨kp_iload, ?_⟩
  refine List.forall_mem_cons.mpr ⟨kp_ald, ?_⟩
  refine List.forall_mem_cons.mpr ⟨kp_aload, ?_⟩
  refine List.forall_mem_cons.mpr ⟨kp_getr, ?_⟩
  refine List.forall_mem_cons.mpr ⟨kp_iload, ?_⟩
  refine List.forall_mem_cons.mpr ⟨kp_ald, ?_⟩
  refine List.forall_mem_cons.mpr ⟨kp_icmp, ?_⟩
  refine List.forall_mem_cons.mpr ⟨kp_aload, ?_⟩
  refine List.forall_mem_cons.mpr ⟨kp_getr, ?_⟩
  refine List.forall_mem_cons.mpr ⟨kp_iload, ?_⟩
  refine List.forall_mem_cons.mpr ⟨kp_ald, ?_⟩
  refine List.forall_mem_cons.mpr ⟨kp_aload, ?_⟩
  refine List.forall_mem_cons.mpr ⟨kp_getr, ?_⟩
  refine List.forall_mem_cons.mpr ⟨kp_iload, ?_⟩
  refine List.forall_mem_cons.mpr ⟨kp_ald, ?_⟩
  refine List.forall_mem_cons.mpr ⟨kp_icmp, ?_⟩
  refine List.forall_mem_cons.mpr ⟨kp_iinc, ?_⟩
  refine List.forall_mem_cons.mpr ⟨kp_iinc, ?_⟩
  refine List.forall_mem_cons.mpr ⟨kp_goto, ?_⟩
  refine List.forall_mem_cons.mpr ⟨kp_iload, ?_⟩
  refine List.forall_mem_cons.mpr ⟨kp_aload, ?_⟩
  refine List.forall_mem_cons.mpr ⟨kp_geti, ?_⟩
  refine List.forall_mem_cons.mpr ⟨kp_icmp, ?_⟩
  refine List.forall_mem_cons.mpr ⟨kp_const, ?_⟩
  refine List.forall_mem_cons.mpr ⟨kp_zret, ?_⟩
  refine List.forall_mem_cons.mpr ⟨kp_iinc, ?_⟩
  refine List.forall_mem_cons.mpr ⟨kp_goto, ?_⟩
  refine List.forall_mem_cons.mpr ⟨kp_const, ?_⟩
  refine List.forall_mem_cons.mpr ⟨kp_zret, ?_⟩
  exact List.forall_mem_nil _
theorem kqX12_isPlan : ∀ q ∈ tX12_isPlan, KP q.2 := by
  unfold tX12_isPlan
  refine List.forall_mem_cons.mpr ⟨kp_const, ?_⟩
  refine List.forall_mem_cons.mpr ⟨kp_istore, ?_⟩
  refine List.forall_mem_cons.mpr ⟨kp_iload, ?_⟩
  refine List.forall_mem_cons.mpr ⟨kp_aload, ?_⟩
  refine List.forall_mem_cons.mpr ⟨kp_geti, ?_⟩
  refine List.forall_mem_cons.mpr ⟨kp_icmp, ?_⟩
  refine List.forall_mem_cons.mpr ⟨kp_iload, ?_⟩
  refine List.forall_mem_cons.mpr ⟨kp_iload, ?_⟩
  refine List.forall_mem_cons.mpr ⟨kp_bin (f := fun x y => x >>> (y &&& 31)), ?_⟩
  refine List.forall_mem_cons.mpr ⟨kp_const, ?_⟩
  refine List.forall_mem_cons.mpr ⟨kp_bin (f := fun x y => x &&& y), ?_⟩
  refine List.forall_mem_cons.mpr ⟨kp_if, ?_⟩
  refine List.forall_mem_cons.mpr ⟨kp_goto, ?_⟩
  refine List.forall_mem_cons.mpr ⟨kp_aload, ?_⟩
  refine List.forall_mem_cons.mpr ⟨kp_getr, ?_⟩
  refine List.forall_mem_cons.mpr ⟨kp_iload, ?_⟩
  refine List.forall_mem_cons.mpr ⟨kp_ald, ?_⟩
  refine List.forall_mem_cons.mpr ⟨kp_if, ?_⟩
  refine List.forall_mem_cons.mpr ⟨kp_const, ?_⟩
  refine List.forall_mem_cons.mpr ⟨kp_zret, ?_⟩
  refine List.forall_mem_cons.mpr ⟨kp_const, ?_⟩
  refine List.forall_mem_cons.mpr ⟨kp_istore, ?_⟩
  refine List.forall_mem_cons.mpr ⟨kp_iload, ?_⟩
  refine List.forall_mem_cons.mpr ⟨kp_iload, ?_⟩
  refine List.forall_mem_cons.mpr ⟨kp_icmp, ?_⟩
  refine List.forall_mem_cons.mpr ⟨kp_iload, ?_⟩
  refine List.forall_mem_cons.mpr ⟨kp_iload, ?_⟩
  refine List.forall_mem_cons.mpr ⟨kp_bin (f := fun x y => x >>> (y &&& 31)), ?_⟩
  refine List.forall_mem_cons.mpr ⟨kp_const, ?_⟩
  refine List.forall_mem_cons.mpr ⟨kp_bin (f := fun x y => x &&& y), ?_⟩
  refine List.forall_mem_cons.mpr ⟨kp_const, ?_⟩
  refine List.forall_mem_cons.mpr ⟨kp_icmp, ?_⟩
  refine List.forall_mem_cons.mpr ⟨kp_aload, ?_⟩
  refine List.forall_mem_cons.mpr ⟨kp_iload, ?_⟩
  refine List.forall_mem_cons.mpr ⟨kp_iload, ?_⟩
  refine List.forall_mem_cons.mpr ⟨kp_callv, ?_⟩
  refine List.forall_mem_cons.mpr ⟨kp_if, ?_⟩
  refine List.forall_mem_cons.mpr ⟨kp_const, ?_⟩
  refine List.forall_mem_cons.mpr ⟨kp_zret, ?_⟩
  refine List.forall_mem_cons.mpr ⟨kp_iinc, ?_⟩
  refine List.forall_mem_cons.mpr ⟨kp_goto, ?_⟩
  refine List.forall_mem_cons.mpr ⟨kp_iinc, ?_⟩
  refine List.forall_mem_cons.mpr ⟨kp_goto, ?_⟩
  refine List.forall_mem_cons.mpr ⟨kp_aload, ?_⟩
  refine List.forall_mem_cons.mpr ⟨kp_iload, ?_⟩
  refine List.forall_mem_cons.mpr ⟨kp_callv, ?_⟩
  refine List.forall_mem_cons.mpr ⟨kp_aload, ?_⟩
  refine List.forall_mem_cons.mpr ⟨kp_geti, ?_⟩
  refine List.forall_mem_cons.mpr ⟨kp_icmp, ?_⟩
  refine List.forall_mem_cons.mpr ⟨kp_aload, ?_⟩
  refine List.forall_mem_cons.mpr ⟨kp_iload, ?_⟩
  refine List.forall_mem_cons.mpr ⟨kp_callv, ?_⟩
  refine List.forall_mem_cons.mpr ⟨kp_if, ?_⟩
  refine List.forall_mem_cons.mpr ⟨kp_const, ?_⟩
  refine List.forall_mem_cons.mpr ⟨kp_goto, ?_⟩
  refine List.forall_mem_cons.mpr ⟨kp_const, ?_⟩
  refine List.forall_mem_cons.mpr ⟨kp_zret, ?_⟩
  exact List.forall_mem_nil _
theorem kqX12_plan : ∀ q ∈ tX12_plan, KP q.2 := by
  unfold tX12_plan
  refine List.forall_mem_cons.mpr ⟨kp_aload, ?_⟩
  refine List.forall_mem_cons.mpr ⟨kp_iload, ?_⟩
  refine List.forall_mem_cons.mpr ⟨kp_callv, ?_⟩
  refine List.forall_mem_cons.mpr ⟨kp_if, ?_⟩
  refine List.forall_mem_cons.mpr ⟨kp_const, ?_⟩
  refine List.forall_mem_cons.mpr ⟨kp_iret, ?_⟩
  refine List.forall_mem_cons.mpr ⟨kp_aload, ?_⟩
  refine List.forall_mem_cons.mpr ⟨kp_iload, ?_⟩
  refine List.forall_mem_cons.mpr ⟨kp_callv, ?_⟩
  refine List.forall_mem_cons.mpr ⟨kp_const, ?_⟩
  refine List.forall_mem_cons.mpr ⟨kp_istore, ?_⟩
  refine List.forall_mem_cons.mpr ⟨kp_const, ?_⟩
  refine List.forall_mem_cons.mpr ⟨kp_istore, ?_⟩
  refine List.forall_mem_cons.mpr ⟨kp_iload, ?_⟩
  refine List.forall_mem_cons.mpr ⟨kp_aload, ?_⟩
  refine List.forall_mem_cons.mpr ⟨kp_geti, ?_⟩
  refine List.forall_mem_cons.mpr ⟨kp_icmp, ?_⟩
  refine List.forall_mem_cons.mpr ⟨kp_aload, ?_⟩
  refine List.forall_mem_cons.mpr ⟨kp_iload, ?_⟩
  refine List.forall_mem_cons.mpr ⟨kp_callv, ?_⟩
  refine List.forall_mem_cons.mpr ⟨kp_if, ?_⟩
  refine List.forall_mem_cons.mpr ⟨kp_iinc, ?_⟩
  refine List.forall_mem_cons.mpr ⟨kp_iinc, ?_⟩
  refine List.forall_mem_cons.mpr ⟨kp_goto, ?_⟩
  refine List.forall_mem_cons.mpr ⟨kp_iload, ?_⟩
  refine List.forall_mem_cons.mpr ⟨kp_const, ?_⟩
  refine List.forall_mem_cons.mpr ⟨kp_icmp, ?_⟩
  refine List.forall_mem_cons.mpr ⟨kp_const, ?_⟩
  refine List.forall_mem_cons.mpr ⟨kp_iret, ?_⟩
  refine List.forall_mem_cons.mpr ⟨kp_aload, ?_⟩
  refine List.forall_mem_cons.mpr ⟨kp_callv, ?_⟩
  refine List.forall_mem_cons.mpr ⟨kp_aload, ?_⟩
  refine List.forall_mem_cons.mpr ⟨kp_const, ?_⟩
  refine List.forall_mem_cons.mpr ⟨kp_puti, ?_⟩
  refine List.forall_mem_cons.mpr ⟨kp_const, ?_⟩
  refine List.forall_mem_cons.mpr ⟨kp_istore, ?_⟩
  refine List.forall_mem_cons.mpr ⟨kp_iload, ?_⟩
  refine List.forall_mem_cons.mpr ⟨kp_aload, ?_⟩
  refine List.forall_mem_cons.mpr ⟨kp_geti, ?_⟩
  refine List.forall_mem_cons.mpr ⟨kp_icmp, ?_⟩
  refine List.forall_mem_cons.mpr ⟨kp_aload, ?_⟩
  refine List.forall_mem_cons.mpr ⟨kp_iload, ?_⟩
  refine List.forall_mem_cons.mpr ⟨kp_callv, ?_⟩
  refine List.forall_mem_cons.mpr ⟨kp_istore, ?_⟩
  refine List.forall_mem_cons.mpr ⟨kp_iload, ?_⟩
  refine List.forall_mem_cons.mpr ⟨kp_if, ?_⟩
  refine List.forall_mem_cons.mpr ⟨kp_goto, ?_⟩
  refine List.forall_mem_cons.mpr ⟨kp_aload, ?_⟩
  refine List.forall_mem_cons.mpr ⟨kp_geti, ?_⟩
  refine List.forall_mem_cons.mpr ⟨kp_istore, ?_⟩
  refine List.forall_mem_cons.mpr ⟨kp_aload, ?_⟩
  refine List.forall_mem_cons.mpr ⟨kp_getr, ?_⟩
  refine List.forall_mem_cons.mpr ⟨kp_iload, ?_⟩
  refine List.forall_mem_cons.mpr ⟨kp_iload, ?_⟩
  refine List.forall_mem_cons.mpr ⟨kp_iast, ?_⟩
  refine List.forall_mem_cons.mpr ⟨kp_aload, ?_⟩
  refine List.forall_mem_cons.mpr ⟨kp_getr, ?_⟩
  refine List.forall_mem_cons.mpr ⟨kp_iload, ?_⟩
  refine List.forall_mem_cons.mpr ⟨kp_iload, ?_⟩
  refine List.forall_mem_cons.mpr ⟨kp_iast, ?_⟩
  refine List.forall_mem_cons.mpr ⟨kp_aload, ?_⟩
  refine List.forall_mem_cons.mpr ⟨kp_getr, ?_⟩
  refine List.forall_mem_cons.mpr ⟨kp_iload, ?_⟩
  refine List.forall_mem_cons.mpr ⟨kp_aload, ?_⟩
  refine List.forall_mem_cons.mpr ⟨kp_getr, ?_⟩
  refine List.forall_mem_cons.mpr ⟨kp_iload, ?_⟩
  refine List.forall_mem_cons.mpr ⟨kp_ald, ?_⟩
  refine List.forall_mem_cons.mpr ⟨kp_aload, ?_⟩
  refine List.forall_mem_cons.mpr ⟨kp_geti, ?_⟩
  refine List.forall_mem_cons.mpr ⟨kp_icmp, ?_⟩
  refine List.forall_mem_cons.mpr ⟨kp_const, ?_⟩
  refine List.forall_mem_cons.mpr ⟨kp_goto, ?_⟩
  refine List.forall_mem_cons.mpr ⟨kp_aload, ?_⟩
  refine List.forall_mem_cons.mpr ⟨kp_getr, ?_⟩
  refine List.forall_mem_cons.mpr ⟨kp_iload, ?_⟩
  refine List.forall_mem_cons.mpr ⟨kp_ald, ?_⟩
  refine List.forall_mem_cons.mpr ⟨kp_aload, ?_⟩
  refine List.forall_mem_cons.mpr ⟨kp_geti, ?_⟩
  refine List.forall_mem_cons.mpr ⟨kp_bin (f := fun x y => x - y), ?_⟩
  refine List.forall_mem_cons.mpr ⟨kp_iast, ?_⟩
  refine List.forall_mem_cons.mpr ⟨kp_aload, ?_⟩
  refine List.forall_mem_cons.mpr ⟨kp_getr, ?_⟩
  refine List.forall_mem_cons.mpr ⟨kp_iload, ?_⟩
  refine List.forall_mem_cons.mpr ⟨kp_aload, ?_⟩
  refine List.forall_mem_cons.mpr ⟨kp_getr, ?_⟩
  refine List.forall_mem_cons.mpr ⟨kp_iload, ?_⟩
  refine List.forall_mem_cons.mpr ⟨kp_ald, ?_⟩
  refine List.forall_mem_cons.mpr ⟨kp_aload, ?_⟩
  refine List.forall_mem_cons.mpr ⟨kp_geti, ?_⟩
  refine List.forall_mem_cons.mpr ⟨kp_bin (f := fun x y => x + y), ?_⟩
  refine List.forall_mem_cons.mpr ⟨kp_const, ?_⟩
  refine List.forall_mem_cons.mpr ⟨kp_icmp, ?_⟩
  refine List.forall_mem_cons.mpr ⟨kp_const, ?_⟩
  refine List.forall_mem_cons.mpr ⟨kp_goto, ?_⟩
  refine List.forall_mem_cons.mpr ⟨kp_aload, ?_⟩
  refine List.forall_mem_cons.mpr ⟨kp_getr, ?_⟩
  refine List.forall_mem_cons.mpr ⟨kp_iload, ?_⟩
  refine List.forall_mem_cons.mpr ⟨kp_ald, ?_⟩
  refine List.forall_mem_cons.mpr ⟨kp_aload, ?_⟩
  refine List.forall_mem_cons.mpr ⟨kp_geti, ?_⟩
  refine List.forall_mem_cons.mpr ⟨kp_bin (f := fun x y => x + y), ?_⟩
  refine List.forall_mem_cons.mpr ⟨kp_iast, ?_⟩
  refine List.forall_mem_cons.mpr ⟨kp_aload, ?_⟩
  refine List.forall_mem_cons.mpr ⟨kp_getr, ?_⟩
  refine List.forall_mem_cons.mpr ⟨kp_iload, ?_⟩
  refine List.forall_mem_cons.mpr ⟨kp_aload, ?_⟩
  refine List.forall_mem_cons.mpr ⟨kp_getr, ?_⟩
  refine List.forall_mem_cons.mpr ⟨kp_iload, ?_⟩
  refine List.forall_mem_cons.mpr ⟨kp_ald, ?_⟩
  refine List.forall_mem_cons.mpr ⟨kp_iast, ?_⟩
  refine List.forall_mem_cons.mpr ⟨kp_aload, ?_⟩
  refine List.forall_mem_cons.mpr ⟨kp_getr, ?_⟩
  refine List.forall_mem_cons.mpr ⟨kp_iload, ?_⟩
  refine List.forall_mem_cons.mpr ⟨kp_aload, ?_⟩
  refine List.forall_mem_cons.mpr ⟨kp_getr, ?_⟩
  refine List.forall_mem_cons.mpr ⟨kp_iload, ?_⟩
  refine List.forall_mem_cons.mpr ⟨kp_ald, ?_⟩
  refine List.forall_mem_cons.mpr ⟨kp_iast, ?_⟩
  refine List.forall_mem_cons.mpr ⟨kp_aload, ?_⟩
  refine List.forall_mem_cons.mpr ⟨kp_getr, ?_⟩
  refine List.forall_mem_cons.mpr ⟨kp_iload, ?_⟩
  refine List.forall_mem_cons.mpr ⟨kp_aload, ?_⟩
  refine List.forall_mem_cons.mpr ⟨kp_getr, ?_⟩
  refine List.forall_mem_cons.mpr ⟨kp_aload, ?_⟩
  refine List.forall_mem_cons.mpr ⟨kp_getr, ?_⟩
  refine List.forall_mem_cons.mpr ⟨kp_iload, ?_⟩
  refine List.forall_mem_cons.mpr ⟨kp_ald, ?_⟩
  refine List.forall_mem_cons.mpr ⟨kp_ald, ?_⟩
  refine List.forall_mem_cons.mpr ⟨kp_iast, ?_⟩
  refine List.forall_mem_cons.mpr ⟨kp_aload, ?_⟩
  refine List.forall_mem_cons.mpr ⟨kp_getr, ?_⟩
  refine List.forall_mem_cons.mpr ⟨kp_iload, ?_⟩
  refine List.forall_mem_cons.mpr ⟨kp_aload, ?_⟩
  refine List.forall_mem_cons.mpr ⟨kp_getr, ?_⟩
  refine List.forall_mem_cons.mpr ⟨kp_aload, ?_⟩
  refine List.forall_mem_cons.mpr ⟨kp_getr, ?_⟩
  refine List.forall_mem_cons.mpr ⟨kp_iload, ?_⟩
  refine List.forall_mem_cons.mpr ⟨kp_ald, ?_⟩
  refine List.forall_mem_cons.mpr ⟨kp_ald, ?_⟩
  refine List.forall_mem_cons.mpr ⟨kp_iast, ?_⟩
  refine List.forall_mem_cons.mpr ⟨kp_aload, ?_⟩
  refine List.forall_mem_cons.mpr ⟨kp_getr, ?_⟩
  refine List.forall_mem_cons.mpr ⟨kp_iload, ?_⟩
  refine List.forall_mem_cons.mpr ⟨kp_const, ?_⟩
  refine List.forall_mem_cons.mpr ⟨kp_zast, ?_⟩
  refine List.forall_mem_cons.mpr ⟨kp_const, ?_⟩
  refine List.forall_mem_cons.mpr ⟨kp_istore, ?_⟩
  refine List.forall_mem_cons.mpr ⟨kp_iload, ?_⟩
  refine List.forall_mem_cons.mpr ⟨kp_aload, ?_⟩
  refine List.forall_mem_cons.mpr ⟨kp_geti, ?_⟩
  refine List.forall_mem_cons.mpr ⟨kp_icmp, ?_⟩
  refine List.forall_mem_cons.mpr ⟨kp_aload, ?_⟩
  refine List.forall_mem_cons.mpr ⟨kp_getr, ?_⟩
  refine List.forall_mem_cons.mpr ⟨kp_iload, ?_⟩
  refine List.forall_mem_cons.mpr ⟨kp_ald, ?_⟩
  refine List.forall_mem_cons.mpr ⟨kp_aload, ?_⟩
  refine List.forall_mem_cons.mpr ⟨kp_getr, ?_⟩
  refine List.forall_mem_cons.mpr ⟨kp_iload, ?_⟩
  refine List.forall_mem_cons.mpr ⟨kp_ald, ?_⟩
  refine List.forall_mem_cons.mpr ⟨kp_icmp, ?_⟩
  refine List.forall_mem_cons.mpr ⟨kp_aload, ?_⟩
  refine List.forall_mem_cons.mpr ⟨kp_getr, ?_⟩
  refine List.forall_mem_cons.mpr ⟨kp_iload, ?_⟩
  refine List.forall_mem_cons.mpr ⟨kp_ald, ?_⟩
  refine List.forall_mem_cons.mpr ⟨kp_aload, ?_⟩
  refine List.forall_mem_cons.mpr ⟨kp_getr, ?_⟩
  refine List.forall_mem_cons.mpr ⟨kp_iload, ?_⟩
  refine List.forall_mem_cons.mpr ⟨kp_ald, ?_⟩
  refine List.forall_mem_cons.mpr ⟨kp_icmp, ?_⟩
  refine List.forall_mem_cons.mpr ⟨kp_aload, ?_⟩
  refine List.forall_mem_cons.mpr ⟨kp_getr, ?_⟩
  refine List.forall_mem_cons.mpr ⟨kp_iload, ?_⟩
  refine List.forall_mem_cons.mpr ⟨kp_ald, ?_⟩
  refine List.forall_mem_cons.mpr ⟨kp_aload, ?_⟩
  refine List.forall_mem_cons.mpr ⟨kp_getr, ?_⟩
  refine List.forall_mem_cons.mpr ⟨kp_iload, ?_⟩
  refine List.forall_mem_cons.mpr ⟨kp_ald, ?_⟩
  refine List.forall_mem_cons.mpr ⟨kp_icmp, ?_⟩
  refine List.forall_mem_cons.mpr ⟨kp_aload, ?_⟩
  refine List.forall_mem_cons.mpr ⟨kp_getr, ?_⟩
  refine List.forall_mem_cons.mpr ⟨kp_iload, ?_⟩
  refine List.forall_mem_cons.mpr ⟨kp_ald, ?_⟩
  refine List.forall_mem_cons.mpr ⟨kp_aload, ?_⟩
  refine List.forall_mem_cons.mpr ⟨kp_getr, ?_⟩
  refine List.forall_mem_cons.mpr ⟨kp_iload, ?_⟩
  refine List.forall_mem_cons.mpr ⟨kp_ald, ?_⟩
  refine List.forall_mem_cons.mpr ⟨kp_icmp, ?_⟩
  refine List.forall_mem_cons.mpr ⟨kp_aload, ?_⟩
  refine List.forall_mem_cons.mpr ⟨kp_getr, ?_⟩
  refine List.forall_mem_cons.mpr ⟨kp_iload, ?_⟩
  refine List.forall_mem_cons.mpr ⟨kp_const, ?_⟩
  refine List.forall_mem_cons.mpr ⟨kp_zast, ?_⟩
  refine List.forall_mem_cons.mpr ⟨kp_iinc, ?_⟩
  refine List.forall_mem_cons.mpr ⟨kp_goto, ?_⟩
  refine List.forall_mem_cons.mpr ⟨kp_aload, ?_⟩
  refine List.forall_mem_cons.mpr ⟨kp_getr, ?_⟩
  refine List.forall_mem_cons.mpr ⟨kp_iload, ?_⟩
  refine List.forall_mem_cons.mpr ⟨kp_aload, ?_⟩
  refine List.forall_mem_cons.mpr ⟨kp_getr, ?_⟩
  refine List.forall_mem_cons.mpr ⟨kp_iload, ?_⟩
  refine List.forall_mem_cons.mpr ⟨kp_ald, ?_⟩
  refine List.forall_mem_cons.mpr ⟨kp_aload, ?_⟩
  refine List.forall_mem_cons.mpr ⟨kp_geti, ?_⟩
  refine List.forall_mem_cons.mpr ⟨kp_icmp, ?_⟩
  refine List.forall_mem_cons.mpr ⟨kp_aload, ?_⟩
  refine List.forall_mem_cons.mpr ⟨kp_getr, ?_⟩
  refine List.forall_mem_cons.mpr ⟨kp_iload, ?_⟩
  refine List.forall_mem_cons.mpr ⟨kp_ald, ?_⟩
  refine List.forall_mem_cons.mpr ⟨kp_if, ?_⟩
  refine List.forall_mem_cons.mpr ⟨kp_const, ?_⟩
  refine List.forall_mem_cons.mpr ⟨kp_goto, ?_⟩
  refine List.forall_mem_cons.mpr ⟨kp_const, ?_⟩
  refine List.forall_mem_cons.mpr ⟨kp_zast, ?_⟩
  refine List.forall_mem_cons.mpr ⟨kp_aload, ?_⟩
  refine List.forall_mem_cons.mpr ⟨kp_dup, ?_⟩
  refine List.forall_mem_cons.mpr ⟨kp_geti, ?_⟩
  refine List.forall_mem_cons.mpr ⟨kp_const, ?_⟩
  refine List.forall_mem_cons.mpr ⟨kp_bin (f := fun x y => x + y), ?_⟩
  refine List.forall_mem_cons.mpr ⟨kp_puti, ?_⟩
  refine List.forall_mem_cons.mpr ⟨kp_iinc, ?_⟩
  refine List.forall_mem_cons.mpr ⟨kp_goto, ?_⟩
  refine List.forall_mem_cons.mpr ⟨kp_aload, ?_⟩
  refine List.forall_mem_cons.mpr ⟨kp_iload, ?_⟩
  refine List.forall_mem_cons.mpr ⟨kp_puti, ?_⟩
  refine List.forall_mem_cons.mpr ⟨kp_aload, ?_⟩
  refine List.forall_mem_cons.mpr ⟨kp_const, ?_⟩
  refine List.forall_mem_cons.mpr ⟨kp_puti, ?_⟩
  refine List.forall_mem_cons.mpr ⟨kp_aload, ?_⟩
  refine List.forall_mem_cons.mpr ⟨kp_callv, ?_⟩
  refine List.forall_mem_cons.mpr ⟨kp_istore, ?_⟩
  refine List.forall_mem_cons.mpr ⟨kp_aload, ?_⟩
  refine List.forall_mem_cons.mpr ⟨kp_aload, ?_⟩
  refine List.forall_mem_cons.mpr ⟨kp_aload, ?_⟩
  refine List.forall_mem_cons.mpr ⟨kp_geti, ?_⟩
  refine List.forall_mem_cons.mpr ⟨kp_callv, ?_⟩
  refine List.forall_mem_cons.mpr ⟨kp_puti, ?_⟩
  refine List.forall_mem_cons.mpr ⟨kp_const, ?_⟩
  refine List.forall_mem_cons.mpr ⟨kp_istore, ?_⟩
  refine List.forall_mem_cons.mpr ⟨kp_iload, ?_⟩
  refine List.forall_mem_cons.mpr ⟨kp_aload, ?_⟩
  refine List.forall_mem_cons.mpr ⟨kp_geti, ?_⟩
  refine List.forall_mem_cons.mpr ⟨kp_icmp, ?_⟩
  refine List.forall_mem_cons.mpr ⟨kp_aload, ?_⟩
  refine List.forall_mem_cons.mpr ⟨kp_iload, ?_⟩
  refine List.forall_mem_cons.mpr ⟨kp_callv, ?_⟩
  refine List.forall_mem_cons.mpr ⟨kp_iinc, ?_⟩
  refine List.forall_mem_cons.mpr ⟨kp_goto, ?_⟩
  refine List.forall_mem_cons.mpr ⟨kp_iload, ?_⟩
  refine List.forall_mem_cons.mpr ⟨kp_iret, ?_⟩
  exact List.forall_mem_nil _
theorem kqX12_finds : ∀ q ∈ tX12_finds, KP q.2 := by
  unfold tX12_finds
  refine List.forall_mem_cons.mpr ⟨kp_const, ?_⟩
  refine List.forall_mem_cons.mpr ⟨kp_istore, ?_⟩
  refine List.forall_mem_cons.mpr ⟨kp_const, ?_⟩
  refine List.forall_mem_cons.mpr ⟨kp_istore, ?_⟩
  refine List.forall_mem_cons.mpr ⟨kp_const, ?_⟩
  refine List.forall_mem_cons.mpr ⟨kp_istore, ?_⟩
  refine List.forall_mem_cons.mpr ⟨kp_const, ?_⟩
  refine List.forall_mem_cons.mpr ⟨kp_istore, ?_⟩
  refine List.forall_mem_cons.mpr ⟨kp_iload, ?_⟩
  refine List.forall_mem_cons.mpr ⟨kp_const, ?_⟩
  refine List.forall_mem_cons.mpr ⟨kp_aload, ?_⟩
  refine List.forall_mem_cons.mpr ⟨kp_geti, ?_⟩
  refine List.forall_mem_cons.mpr ⟨kp_bin (f := fun x y => x <<< (y &&& 31)), ?_⟩
  refine List.forall_mem_cons.mpr ⟨kp_icmp, ?_⟩
  refine List.forall_mem_cons.mpr ⟨kp_const, ?_⟩
  refine List.forall_mem_cons.mpr ⟨kp_istore, ?_⟩
  refine List.forall_mem_cons.mpr ⟨kp_const, ?_⟩
  refine List.forall_mem_cons.mpr ⟨kp_istore, ?_⟩
  refine List.forall_mem_cons.mpr ⟨kp_const, ?_⟩
  refine List.forall_mem_cons.mpr ⟨kp_istore, ?_⟩
  refine List.forall_mem_cons.mpr ⟨kp_iload, ?_⟩
  refine List.forall_mem_cons.mpr ⟨kp_aload, ?_⟩
  refine List.forall_mem_cons.mpr ⟨kp_geti, ?_⟩
  refine List.forall_mem_cons.mpr ⟨kp_icmp, ?_⟩
  refine List.forall_mem_cons.mpr ⟨kp_iload, ?_⟩
  refine List.forall_mem_cons.mpr ⟨kp_iload, ?_⟩
  refine List.forall_mem_cons.mpr ⟨kp_bin (f := fun x y => x >>> (y &&& 31)), ?_⟩
  refine List.forall_mem_cons.mpr ⟨kp_const, ?_⟩
  refine List.forall_mem_cons.mpr ⟨kp_bin (f := fun x y => x &&& y), ?_⟩
  refine List.forall_mem_cons.mpr ⟨kp_if, ?_⟩
  refine List.forall_mem_cons.mpr ⟨kp_goto, ?_⟩
  refine List.forall_mem_cons.mpr ⟨kp_iload, ?_⟩
  refine List.forall_mem_cons.mpr ⟨kp_aload, ?_⟩
  refine List.forall_mem_cons.mpr ⟨kp_getr, ?_⟩
  refine List.forall_mem_cons.mpr ⟨kp_iload, ?_⟩
  refine List.forall_mem_cons.mpr ⟨kp_ald, ?_⟩
  refine List.forall_mem_cons.mpr ⟨kp_bin (f := fun x y => x + y), ?_⟩
  refine List.forall_mem_cons.mpr ⟨kp_istore, ?_⟩
  refine List.forall_mem_cons.mpr ⟨kp_aload, ?_⟩
  refine List.forall_mem_cons.mpr ⟨kp_getr, ?_⟩
  refine List.forall_mem_cons.mpr ⟨kp_iload, ?_⟩
  refine List.forall_mem_cons.mpr ⟨kp_ald, ?_⟩
  refine List.forall_mem_cons.mpr ⟨kp_if, ?_⟩
  refine List.forall_mem_cons.mpr ⟨kp_iinc, ?_⟩
  refine List.forall_mem_cons.mpr ⟨kp_iinc, ?_⟩
  refine List.forall_mem_cons.mpr ⟨kp_goto, ?_⟩
  refine List.forall_mem_cons.mpr ⟨kp_iload, ?_⟩
  refine List.forall_mem_cons.mpr ⟨kp_iload, ?_⟩
  refine List.forall_mem_cons.mpr ⟨kp_icmp, ?_⟩
  refine List.forall_mem_cons.mpr ⟨kp_iload, ?_⟩
  refine List.forall_mem_cons.mpr ⟨kp_iload, ?_⟩
  refine List.forall_mem_cons.mpr ⟨kp_icmp, ?_⟩
  refine List.forall_mem_cons.mpr ⟨kp_iload, ?_⟩
  refine List.forall_mem_cons.mpr ⟨kp_iload, ?_⟩
  refine List.forall_mem_cons.mpr ⟨kp_icmp, ?_⟩
  refine List.forall_mem_cons.mpr ⟨kp_goto, ?_⟩
  refine List.forall_mem_cons.mpr ⟨kp_aload, ?_⟩
  refine List.forall_mem_cons.mpr ⟨kp_iload, ?_⟩
  refine List.forall_mem_cons.mpr ⟨kp_callv, ?_⟩
  refine List.forall_mem_cons.mpr ⟨kp_istore, ?_⟩
  refine List.forall_mem_cons.mpr ⟨kp_iload, ?_⟩
  refine List.forall_mem_cons.mpr ⟨kp_iload, ?_⟩
  refine List.forall_mem_cons.mpr ⟨kp_icmp, ?_⟩
  refine List.forall_mem_cons.mpr ⟨kp_iload, ?_⟩
  refine List.forall_mem_cons.mpr ⟨kp_iload, ?_⟩
  refine List.forall_mem_cons.mpr ⟨kp_icmp, ?_⟩
  refine List.forall_mem_cons.mpr ⟨kp_iload, ?_⟩
  refine List.forall_mem_cons.mpr ⟨kp_iload, ?_⟩
  refine List.forall_mem_cons.mpr ⟨kp_icmp, ?_⟩
  refine List.forall_mem_cons.mpr ⟨kp_goto, ?_⟩
  refine List.forall_mem_cons.mpr ⟨kp_iload, ?_⟩
  refine List.forall_mem_cons.mpr ⟨kp_aload, ?_⟩
  refine List.forall_mem_cons.mpr ⟨kp_geti, ?_⟩
  refine List.forall_mem_cons.mpr ⟨kp_bin (f := fun x y => x ^^^ y), ?_⟩
  refine List.forall_mem_cons.mpr ⟨kp_istore, ?_⟩
  refine List.forall_mem_cons.mpr ⟨kp_iload, ?_⟩
  refine List.forall_mem_cons.mpr ⟨kp_iload, ?_⟩
  refine List.forall_mem_cons.mpr ⟨kp_icmp, ?_⟩
  refine List.forall_mem_cons.mpr ⟨kp_aload, ?_⟩
  refine List.forall_mem_cons.mpr ⟨kp_geti, ?_⟩
  refine List.forall_mem_cons.mpr ⟨kp_iload, ?_⟩
  refine List.forall_mem_cons.mpr ⟨kp_bin (f := fun x y => x &&& y), ?_⟩
  refine List.forall_mem_cons.mpr ⟨kp_iload, ?_⟩
  refine List.forall_mem_cons.mpr ⟨kp_un, ?_⟩
  refine List.forall_mem_cons.mpr ⟨kp_bin (f := fun x y => x &&& y), ?_⟩
  refine List.forall_mem_cons.mpr ⟨kp_if, ?_⟩
  refine List.forall_mem_cons.mpr ⟨kp_goto, ?_⟩
  refine List.forall_mem_cons.mpr ⟨kp_aload, ?_⟩
  refine List.forall_mem_cons.mpr ⟨kp_iload, ?_⟩
  refine List.forall_mem_cons.mpr ⟨kp_callv, ?_⟩
  refine List.forall_mem_cons.mpr ⟨kp_if, ?_⟩
  refine List.forall_mem_cons.mpr ⟨kp_goto, ?_⟩
  refine List.forall_mem_cons.mpr ⟨kp_iload, ?_⟩
  refine List.forall_mem_cons.mpr ⟨kp_istore, ?_⟩
  refine List.forall_mem_cons.mpr ⟨kp_iload, ?_⟩
  refine List.forall_mem_cons.mpr ⟨kp_istore, ?_⟩
  refine List.forall_mem_cons.mpr ⟨kp_iload, ?_⟩
  refine List.forall_mem_cons.mpr ⟨kp_istore, ?_⟩
  refine List.forall_mem_cons.mpr ⟨kp_aload, ?_⟩
  refine List.forall_mem_cons.mpr ⟨kp_iload, ?_⟩
  refine List.forall_mem_cons.mpr ⟨kp_puti, ?_⟩
  refine List.forall_mem_cons.mpr ⟨kp_iinc, ?_⟩
  refine List.forall_mem_cons.mpr ⟨kp_goto, ?_⟩
  refine List.forall_mem_cons.mpr ⟨kp_iload, ?_⟩
  refine List.forall_mem_cons.mpr ⟨kp_iret, ?_⟩
  exact List.forall_mem_nil _
theorem kqX12_reasons : ∀ q ∈ tX12_reasons, KP q.2 := by
  unfold tX12_reasons
  refine List.forall_mem_cons.mpr ⟨kp_aload, ?_⟩
  refine List.forall_mem_cons.mpr ⟨kp_getr, ?_⟩
  refine List.forall_mem_cons.mpr ⟨kp_iload, ?_⟩
  refine List.forall_mem_cons.mpr ⟨kp_const, ?_⟩
  refine List.forall_mem_cons.mpr ⟨kp_iast, ?_⟩
  refine List.forall_mem_cons.mpr ⟨kp_aload, ?_⟩
  refine List.forall_mem_cons.mpr ⟨kp_getr, ?_⟩
  refine List.forall_mem_cons.mpr ⟨kp_iload, ?_⟩
  refine List.forall_mem_cons.mpr ⟨kp_const, ?_⟩
  refine List.forall_mem_cons.mpr ⟨kp_iast, ?_⟩
  refine List.forall_mem_cons.mpr ⟨kp_aload, ?_⟩
  refine List.forall_mem_cons.mpr ⟨kp_geti, ?_⟩
  refine List.forall_mem_cons.mpr ⟨kp_iload, ?_⟩
  refine List.forall_mem_cons.mpr ⟨kp_bin (f := fun x y => x >>> (y &&& 31)), ?_⟩
  refine List.forall_mem_cons.mpr ⟨kp_const, ?_⟩
  refine List.forall_mem_cons.mpr ⟨kp_bin (f := fun x y => x &&& y), ?_⟩
  refine List.forall_mem_cons.mpr ⟨kp_const, ?_⟩
  refine List.forall_mem_cons.mpr ⟨kp_icmp, ?_⟩
  refine List.forall_mem_cons.mpr ⟨kp_vret, ?_⟩
  refine List.forall_mem_cons.mpr ⟨kp_aload, ?_⟩
  refine List.forall_mem_cons.mpr ⟨kp_getr, ?_⟩
  refine List.forall_mem_cons.mpr ⟨kp_iload, ?_⟩
  refine List.forall_mem_cons.mpr ⟨kp_const, ?_⟩
  refine List.forall_mem_cons.mpr ⟨kp_iast, ?_⟩
  refine List.forall_mem_cons.mpr ⟨kp_aload, ?_⟩
  refine List.forall_mem_cons.mpr ⟨kp_getr, ?_⟩
  refine List.forall_mem_cons.mpr ⟨kp_iload, ?_⟩
  refine List.forall_mem_cons.mpr ⟨kp_ald, ?_⟩
  refine List.forall_mem_cons.mpr ⟨kp_if, ?_⟩
  refine List.forall_mem_cons.mpr ⟨kp_vret, ?_⟩
  refine List.forall_mem_cons.mpr ⟨kp_aload, ?_⟩
  refine List.forall_mem_cons.mpr ⟨kp_getr, ?_⟩
  refine List.forall_mem_cons.mpr ⟨kp_iload, ?_⟩
  refine List.forall_mem_cons.mpr ⟨kp_const, ?_⟩
  refine List.forall_mem_cons.mpr ⟨kp_iast, ?_⟩
  refine List.forall_mem_cons.mpr ⟨kp_const, ?_⟩
  refine List.forall_mem_cons.mpr ⟨kp_istore, ?_⟩
  refine List.forall_mem_cons.mpr ⟨kp_iload, ?_⟩
  refine List.forall_mem_cons.mpr ⟨kp_aload, ?_⟩
  refine List.forall_mem_cons.mpr ⟨kp_geti, ?_⟩
  refine List.forall_mem_cons.mpr ⟨kp_icmp, ?_⟩
  refine List.forall_mem_cons.mpr ⟨kp_aload, ?_⟩
  refine List.forall_mem_cons.mpr ⟨kp_getr, ?_⟩
  refine List.forall_mem_cons.mpr ⟨kp_iload, ?_⟩
  refine List.forall_mem_cons.mpr ⟨kp_ald, ?_⟩
  refine List.forall_mem_cons.mpr ⟨kp_const, ?_⟩
  refine List.forall_mem_cons.mpr ⟨kp_icmp, ?_⟩
  refine List.forall_mem_cons.mpr ⟨kp_aload, ?_⟩
  refine List.forall_mem_cons.mpr ⟨kp_geti, ?_⟩
  refine List.forall_mem_cons.mpr ⟨kp_iload, ?_⟩
  refine List.forall_mem_cons.mpr ⟨kp_bin (f := fun x y => x >>> (y &&& 31)), ?_⟩
  refine List.forall_mem_cons.mpr ⟨kp_const, ?_⟩
  refine List.forall_mem_cons.mpr ⟨kp_bin (f := fun x y => x &&& y), ?_⟩
  refine List.forall_mem_cons.mpr ⟨kp_const, ?_⟩
  refine List.forall_mem_cons.mpr ⟨kp_icmp, ?_⟩
  refine List.forall_mem_cons.mpr ⟨kp_aload, ?_⟩
  refine List.forall_mem_cons.mpr ⟨kp_iload, ?_⟩
  refine List.forall_mem_cons.mpr ⟨kp_iload, ?_⟩
  refine List.forall_mem_cons.mpr ⟨kp_callv, ?_⟩
  refine List.forall_mem_cons.mpr ⟨kp_if, ?_⟩
  refine List.forall_mem_cons.mpr ⟨kp_aload, ?_⟩
  refine List.forall_mem_cons.mpr ⟨kp_getr, ?_⟩
  refine List.forall_mem_cons.mpr ⟨kp_iload, ?_⟩
  refine List.forall_mem_cons.mpr ⟨kp_iload, ?_⟩
  refine List.forall_mem_cons.mpr ⟨kp_iast, ?_⟩
  refine List.forall_mem_cons.mpr ⟨kp_iinc, ?_⟩
  refine List.forall_mem_cons.mpr ⟨kp_goto, ?_⟩
  refine List.forall_mem_cons.mpr ⟨kp_aload, ?_⟩
  refine List.forall_mem_cons.mpr ⟨kp_getr, ?_⟩
  refine List.forall_mem_cons.mpr ⟨kp_iload, ?_⟩
  refine List.forall_mem_cons.mpr ⟨kp_ald, ?_⟩
  refine List.forall_mem_cons.mpr ⟨kp_const, ?_⟩
  refine List.forall_mem_cons.mpr ⟨kp_icmp, ?_⟩
  refine List.forall_mem_cons.mpr ⟨kp_vret, ?_⟩
  refine List.forall_mem_cons.mpr ⟨kp_aload, ?_⟩
  refine List.forall_mem_cons.mpr ⟨kp_aload, ?_⟩
  refine List.forall_mem_cons.mpr ⟨kp_geti, ?_⟩
  refine List.forall_mem_cons.mpr ⟨kp_const, ?_⟩
  refine List.forall_mem_cons.mpr ⟨kp_iload, ?_⟩
  refine List.forall_mem_cons.mpr ⟨kp_bin (f := fun x y => x <<< (y &&& 31)), ?_⟩
  refine List.forall_mem_cons.mpr ⟨kp_bin (f := fun x y => x ||| y), ?_⟩
  refine List.forall_mem_cons.mpr ⟨kp_callv, ?_⟩
  refine List.forall_mem_cons.mpr ⟨kp_if, ?_⟩
  refine List.forall_mem_cons.mpr ⟨kp_aload, ?_⟩
  refine List.forall_mem_cons.mpr ⟨kp_getr, ?_⟩
  refine List.forall_mem_cons.mpr ⟨kp_iload, ?_⟩
  refine List.forall_mem_cons.mpr ⟨kp_const, ?_⟩
  refine List.forall_mem_cons.mpr ⟨kp_iast, ?_⟩
  refine List.forall_mem_cons.mpr ⟨kp_const, ?_⟩
  refine List.forall_mem_cons.mpr ⟨kp_istore, ?_⟩
  refine List.forall_mem_cons.mpr ⟨kp_iload, ?_⟩
  refine List.forall_mem_cons.mpr ⟨kp_aload, ?_⟩
  refine List.forall_mem_cons.mpr ⟨kp_geti, ?_⟩
  refine List.forall_mem_cons.mpr ⟨kp_icmp, ?_⟩
  refine List.forall_mem_cons.mpr ⟨kp_aload, ?_⟩
  refine List.forall_mem_cons.mpr ⟨kp_geti, ?_⟩
  refine List.forall_mem_cons.mpr ⟨kp_iload, ?_⟩
  refine List.forall_mem_cons.mpr ⟨kp_bin (f := fun x y => x >>> (y &&& 31)), ?_⟩
  refine List.forall_mem_cons.mpr ⟨kp_const, ?_⟩
  refine List.forall_mem_cons.mpr ⟨kp_bin (f := fun x y => x &&& y), ?_⟩
  refine List.forall_mem_cons.mpr ⟨kp_const, ?_⟩
  refine List.forall_mem_cons.mpr ⟨kp_icmp, ?_⟩
  refine List.forall_mem_cons.mpr ⟨kp_aload, ?_⟩
  refine List.forall_mem_cons.mpr ⟨kp_iload, ?_⟩
  refine List.forall_mem_cons.mpr ⟨kp_iload, ?_⟩
  refine List.forall_mem_cons.mpr ⟨kp_callv, ?_⟩
  refine List.forall_mem_cons.mpr ⟨kp_if, ?_⟩
  refine List.forall_mem_cons.mpr ⟨kp_aload, ?_⟩
  refine List.forall_mem_cons.mpr ⟨kp_getr, ?_⟩
  refine List.forall_mem_cons.mpr ⟨kp_iload, ?_⟩
  refine List.forall_mem_cons.mpr ⟨kp_ald, ?_⟩
  refine List.forall_mem_cons.mpr ⟨kp_const, ?_⟩
  refine List.forall_mem_cons.mpr ⟨kp_icmp, ?_⟩
  refine List.forall_mem_cons.mpr ⟨kp_aload, ?_⟩
  refine List.forall_mem_cons.mpr ⟨kp_getr, ?_⟩
  refine List.forall_mem_cons.mpr ⟨kp_iload, ?_⟩
  refine List.forall_mem_cons.mpr ⟨kp_ald, ?_⟩
  refine List.forall_mem_cons.mpr ⟨kp_aload, ?_⟩
  refine List.forall_mem_cons.mpr ⟨kp_getr, ?_⟩
  refine List.forall_mem_cons.mpr ⟨kp_aload, ?_⟩
  refine List.forall_mem_cons.mpr ⟨kp_getr, ?_⟩
  refine List.forall_mem_cons.mpr ⟨kp_iload, ?_⟩
  refine List.forall_mem_cons.mpr ⟨kp_ald, ?_⟩
  refine List.forall_mem_cons.mpr ⟨kp_ald, ?_⟩
  refine List.forall_mem_cons.mpr ⟨kp_icmp, ?_⟩
  refine List.forall_mem_cons.mpr ⟨kp_aload, ?_⟩
  refine List.forall_mem_cons.mpr ⟨kp_getr, ?_⟩
  refine List.forall_mem_cons.mpr ⟨kp_iload, ?_⟩
  refine List.forall_mem_cons.mpr ⟨kp_iload, ?_⟩
  refine List.forall_mem_cons.mpr ⟨kp_iast, ?_⟩
  refine List.forall_mem_cons.mpr ⟨kp_iinc, ?_⟩
  refine List.forall_mem_cons.mpr ⟨kp_goto, ?_⟩
  refine List.forall_mem_cons.mpr ⟨kp_vret, ?_⟩
  refine List.forall_mem_cons.mpr ⟨kp_aload, ?_⟩
  refine List.forall_mem_cons.mpr ⟨kp_getr, ?_⟩
  refine List.forall_mem_cons.mpr ⟨kp_iload, ?_⟩
  refine List.forall_mem_cons.mpr ⟨kp_aload, ?_⟩
  refine List.forall_mem_cons.mpr ⟨kp_geti, ?_⟩
  refine List.forall_mem_cons.mpr ⟨kp_aload, ?_⟩
  refine List.forall_mem_cons.mpr ⟨kp_getr, ?_⟩
  refine List.forall_mem_cons.mpr ⟨kp_iload, ?_⟩
  refine List.forall_mem_cons.mpr ⟨kp_ald, ?_⟩
  refine List.forall_mem_cons.mpr ⟨kp_bin (f := fun x y => x + y), ?_⟩
  refine List.forall_mem_cons.mpr ⟨kp_aload, ?_⟩
  refine List.forall_mem_cons.mpr ⟨kp_getr, ?_⟩
  refine List.forall_mem_cons.mpr ⟨kp_iload, ?_⟩
  refine List.forall_mem_cons.mpr ⟨kp_ald, ?_⟩
  refine List.forall_mem_cons.mpr ⟨kp_bin (f := fun x y => x - y), ?_⟩
  refine List.forall_mem_cons.mpr ⟨kp_aload, ?_⟩
  refine List.forall_mem_cons.mpr ⟨kp_geti, ?_⟩
  refine List.forall_mem_cons.mpr ⟨kp_icmp, ?_⟩
  refine List.forall_mem_cons.mpr ⟨kp_const, ?_⟩
  refine List.forall_mem_cons.mpr ⟨kp_goto, ?_⟩
  refine List.forall_mem_cons.mpr ⟨kp_const, ?_⟩
  refine List.forall_mem_cons.mpr ⟨kp_iast, ?_⟩
  refine List.forall_mem_cons.mpr ⟨kp_vret, ?_⟩
  exact List.forall_mem_nil _
theorem kqX12_candidate : ∀ q ∈ tX12_candidate, KP q.2 := by
  unfold tX12_candidate
  refine List.forall_mem_cons.mpr ⟨kp_aload, ?_⟩
  refine List.forall_mem_cons.mpr ⟨kp_geti, ?_⟩
  refine List.forall_mem_cons.mpr ⟨kp_const, ?_⟩
  refine List.forall_mem_cons.mpr ⟨kp_icmp, ?_⟩
  refine List.forall_mem_cons.mpr ⟨kp_iload, ?_⟩
  refine List.forall_mem_cons.mpr ⟨kp_if, ?_⟩
  refine List.forall_mem_cons.mpr ⟨kp_iload, ?_⟩
  refine List.forall_mem_cons.mpr ⟨kp_aload, ?_⟩
  refine List.forall_mem_cons.mpr ⟨kp_geti, ?_⟩
  refine List.forall_mem_cons.mpr ⟨kp_icmp, ?_⟩
  refine List.forall_mem_cons.mpr ⟨kp_const, ?_⟩
  refine List.forall_mem_cons.mpr ⟨kp_iret, ?_⟩
  refine List.forall_mem_cons.mpr ⟨kp_iload, ?_⟩
  refine List.forall_mem_cons.mpr ⟨kp_sw, ?_⟩
  refine List.forall_mem_cons.mpr ⟨kp_aload, ?_⟩
  refine List.forall_mem_cons.mpr ⟨kp_getr, ?_⟩
  refine List.forall_mem_cons.mpr ⟨kp_iload, ?_⟩
  refine List.forall_mem_cons.mpr ⟨kp_ald, ?_⟩
  refine List.forall_mem_cons.mpr ⟨kp_iret, ?_⟩
  refine List.forall_mem_cons.mpr ⟨kp_aload, ?_⟩
  refine List.forall_mem_cons.mpr ⟨kp_geti, ?_⟩
  refine List.forall_mem_cons.mpr ⟨kp_iload, ?_⟩
  refine List.forall_mem_cons.mpr ⟨kp_bin (f := fun x y => x >>> (y &&& 31)), ?_⟩
  refine List.forall_mem_cons.mpr ⟨kp_const, ?_⟩
  refine List.forall_mem_cons.mpr ⟨kp_bin (f := fun x y => x &&& y), ?_⟩
  refine List.forall_mem_cons.mpr ⟨kp_iret, ?_⟩
  refine List.forall_mem_cons.mpr ⟨kp_aload, ?_⟩
  refine List.forall_mem_cons.mpr ⟨kp_getr, ?_⟩
  refine List.forall_mem_cons.mpr ⟨kp_iload, ?_⟩
  refine List.forall_mem_cons.mpr ⟨kp_ald, ?_⟩
  refine List.forall_mem_cons.mpr ⟨kp_iret, ?_⟩
  refine List.forall_mem_cons.mpr ⟨kp_aload, ?_⟩
  refine List.forall_mem_cons.mpr ⟨kp_getr, ?_⟩
  refine List.forall_mem_cons.mpr ⟨kp_iload, ?_⟩
  refine List.forall_mem_cons.mpr ⟨kp_ald, ?_⟩
  refine List.forall_mem_cons.mpr ⟨kp_iret, ?_⟩
  refine List.forall_mem_cons.mpr ⟨kp_aload, ?_⟩
  refine List.forall_mem_cons.mpr ⟨kp_getr, ?_⟩
  refine List.forall_mem_cons.mpr ⟨kp_iload, ?_⟩
  refine List.forall_mem_cons.mpr ⟨kp_ald, ?_⟩
  refine List.forall_mem_cons.mpr ⟨kp_if, ?_⟩
  refine List.forall_mem_cons.mpr ⟨kp_const, ?_⟩
  refine List.forall_mem_cons.mpr ⟨kp_goto, ?_⟩
  refine List.forall_mem_cons.mpr ⟨kp_const, ?_⟩
  refine List.forall_mem_cons.mpr ⟨kp_iret, ?_⟩
  refine List.forall_mem_cons.mpr ⟨kp_const, ?_⟩
  refine List.forall_mem_cons.mpr ⟨kp_iret, ?_⟩
  exact List.forall_mem_nil _
theorem kqX12_count : ∀ q ∈ tX12_count, KP q.2 := by
  unfold tX12_count
  refine List.forall_mem_cons.mpr ⟨kp_iload, ?_⟩
  refine List.forall_mem_cons.mpr ⟨kp_sw, ?_⟩
  refine List.forall_mem_cons.mpr ⟨kp_aload, ?_⟩
  refine List.forall_mem_cons.mpr ⟨kp_geti, ?_⟩
  refine List.forall_mem_cons.mpr ⟨kp_iret, ?_⟩
  refine List.forall_mem_cons.mpr ⟨kp_aload, ?_⟩
  refine List.forall_mem_cons.mpr ⟨kp_geti, ?_⟩
  refine List.forall_mem_cons.mpr ⟨kp_iret, ?_⟩
  refine List.forall_mem_cons.mpr ⟨kp_aload, ?_⟩
  refine List.forall_mem_cons.mpr ⟨kp_geti, ?_⟩
  refine List.forall_mem_cons.mpr ⟨kp_iret, ?_⟩
  refine List.forall_mem_cons.mpr ⟨kp_aload, ?_⟩
  refine List.forall_mem_cons.mpr ⟨kp_getr, ?_⟩
  refine List.forall_mem_cons.mpr ⟨kp_aload, ?_⟩
  refine List.forall_mem_cons.mpr ⟨kp_geti, ?_⟩
  refine List.forall_mem_cons.mpr ⟨kp_ald, ?_⟩
  refine List.forall_mem_cons.mpr ⟨kp_iret, ?_⟩
  refine List.forall_mem_cons.mpr ⟨kp_aload, ?_⟩
  refine List.forall_mem_cons.mpr ⟨kp_geti, ?_⟩
  refine List.forall_mem_cons.mpr ⟨kp_iret, ?_⟩
  refine List.forall_mem_cons.mpr ⟨kp_aload, ?_⟩
  refine List.forall_mem_cons.mpr ⟨kp_geti, ?_⟩
  refine List.forall_mem_cons.mpr ⟨kp_iret, ?_⟩
  refine List.forall_mem_cons.mpr ⟨kp_aload, ?_⟩
  refine List.forall_mem_cons.mpr ⟨kp_geti, ?_⟩
  refine List.forall_mem_cons.mpr ⟨kp_const, ?_⟩
  refine List.forall_mem_cons.mpr ⟨kp_icmp, ?_⟩
  refine List.forall_mem_cons.mpr ⟨kp_iload, ?_⟩
  refine List.forall_mem_cons.mpr ⟨kp_const, ?_⟩
  refine List.forall_mem_cons.mpr ⟨kp_icmp, ?_⟩
  refine List.forall_mem_cons.mpr ⟨kp_iload, ?_⟩
  refine List.forall_mem_cons.mpr ⟨kp_const, ?_⟩
  refine List.forall_mem_cons.mpr ⟨kp_icmp, ?_⟩
  refine List.forall_mem_cons.mpr ⟨kp_const, ?_⟩
  refine List.forall_mem_cons.mpr ⟨kp_iret, ?_⟩
  refine List.forall_mem_cons.mpr ⟨kp_iload, ?_⟩
  refine List.forall_mem_cons.mpr ⟨kp_const, ?_⟩
  refine List.forall_mem_cons.mpr ⟨kp_icmp, ?_⟩
  refine List.forall_mem_cons.mpr ⟨kp_aload, ?_⟩
  refine List.forall_mem_cons.mpr ⟨kp_geti, ?_⟩
  refine List.forall_mem_cons.mpr ⟨kp_iret, ?_⟩
  refine List.forall_mem_cons.mpr ⟨kp_iload, ?_⟩
  refine List.forall_mem_cons.mpr ⟨kp_const, ?_⟩
  refine List.forall_mem_cons.mpr ⟨kp_icmp, ?_⟩
  refine List.forall_mem_cons.mpr ⟨kp_aload, ?_⟩
  refine List.forall_mem_cons.mpr ⟨kp_geti, ?_⟩
  refine List.forall_mem_cons.mpr ⟨kp_iret, ?_⟩
  refine List.forall_mem_cons.mpr ⟨kp_iload, ?_⟩
  refine List.forall_mem_cons.mpr ⟨kp_const, ?_⟩
  refine List.forall_mem_cons.mpr ⟨kp_icmp, ?_⟩
  refine List.forall_mem_cons.mpr ⟨kp_aload, ?_⟩
  refine List.forall_mem_cons.mpr ⟨kp_geti, ?_⟩
  refine List.forall_mem_cons.mpr ⟨kp_iret, ?_⟩
  refine List.forall_mem_cons.mpr ⟨kp_const, ?_⟩
  refine List.forall_mem_cons.mpr ⟨kp_istore, ?_⟩
  refine List.forall_mem_cons.mpr ⟨kp_const, ?_⟩
  refine List.forall_mem_cons.mpr ⟨kp_istore, ?_⟩
  refine List.forall_mem_cons.mpr ⟨kp_iload, ?_⟩
  refine List.forall_mem_cons.mpr ⟨kp_aload, ?_⟩
  refine List.forall_mem_cons.mpr ⟨kp_geti, ?_⟩
  refine List.forall_mem_cons.mpr ⟨kp_icmp, ?_⟩
  refine List.forall_mem_cons.mpr ⟨kp_iload, ?_⟩
  refine List.forall_mem_cons.mpr ⟨kp_aload, ?_⟩
  refine List.forall_mem_cons.mpr ⟨kp_geti, ?_⟩
  refine List.forall_mem_cons.mpr ⟨kp_iload, ?_⟩
  refine List.forall_mem_cons.mpr ⟨kp_bin (f := fun x y => x >>> (y &&& 31)), ?_⟩
  refine List.forall_mem_cons.mpr ⟨kp_const, ?_⟩
  refine List.forall_mem_cons.mpr ⟨kp_bin (f := fun x y => x &&& y), ?_⟩
  refine List.forall_mem_cons.mpr ⟨kp_bin (f := fun x y => x + y), ?_⟩
  refine List.forall_mem_cons.mpr ⟨kp_istore, ?_⟩
  refine List.forall_mem_cons.mpr ⟨kp_iinc, ?_⟩
  refine List.forall_mem_cons.mpr ⟨kp_goto, ?_⟩
  refine List.forall_mem_cons.mpr ⟨kp_iload, ?_⟩
  refine List.forall_mem_cons.mpr ⟨kp_iret, ?_⟩
  exact List.forall_mem_nil _
theorem kqJ6_bitCount_0f7a4 : ∀ q ∈ tJ6_bitCount_0f7a4, KP q.2 := by
  unfold tJ6_bitCount_0f7a4
  refine List.forall_mem_cons.mpr ⟨kp_iload, ?_⟩
  refine List.forall_mem_cons.mpr ⟨kp_iload, ?_⟩
  refine List.forall_mem_cons.mpr ⟨kp_const, ?_⟩
  refine List.forall_mem_cons.mpr ⟨kp_bin (f := fun x y => (x.toUInt32 >>> (y.toUInt32 &&& Int32.toUInt32 31)).toInt32), ?_⟩
  refine List.forall_mem_cons.mpr ⟨kp_const, ?_⟩
  refine List.forall_mem_cons.mpr ⟨kp_bin (f := fun x y => x &&& y), ?_⟩
  refine List.forall_mem_cons.mpr ⟨kp_bin (f := fun x y => x - y), ?_⟩
  refine List.forall_mem_cons.mpr ⟨kp_istore, ?_⟩
  refine List.forall_mem_cons.mpr ⟨kp_iload, ?_⟩
  refine List.forall_mem_cons.mpr ⟨kp_const, ?_⟩
  refine List.forall_mem_cons.mpr ⟨kp_bin (f := fun x y => x &&& y), ?_⟩
  refine List.forall_mem_cons.mpr ⟨kp_iload, ?_⟩
  refine List.forall_mem_cons.mpr ⟨kp_const, ?_⟩
  refine List.forall_mem_cons.mpr ⟨kp_bin (f := fun x y => (x.toUInt32 >>> (y.toUInt32 &&& Int32.toUInt32 31)).toInt32), ?_⟩
  refine List.forall_mem_cons.mpr ⟨kp_const, ?_⟩
  refine List.forall_mem_cons.mpr ⟨kp_bin (f := fun x y => x &&& y), ?_⟩
  refine List.forall_mem_cons.mpr ⟨kp_bin (f := fun x y => x + y), ?_⟩
  refine List.forall_mem_cons.mpr ⟨kp_istore, ?_⟩
  refine List.forall_mem_cons.mpr ⟨kp_iload, ?_⟩
  refine List.forall_mem_cons.mpr ⟨kp_iload, ?_⟩
  refine List.forall_mem_cons.mpr ⟨kp_const, ?_⟩
  refine List.forall_mem_cons.mpr ⟨kp_bin (f := fun x y => (x.toUInt32 >>> (y.toUInt32 &&& Int32.toUInt32 31)).toInt32), ?_⟩
  refine List.forall_mem_cons.mpr ⟨kp_bin (f := fun x y => x + y), ?_⟩
  refine List.forall_mem_cons.mpr ⟨kp_const, ?_⟩
  refine List.forall_mem_cons.mpr ⟨kp_bin (f := fun x y => x &&& y), ?_⟩
  refine List.forall_mem_cons.mpr ⟨kp_istore, ?_⟩
  refine List.forall_mem_cons.mpr ⟨kp_iload, ?_⟩
  refine List.forall_mem_cons.mpr ⟨kp_iload, ?_⟩
  refine List.forall_mem_cons.mpr ⟨kp_const, ?_⟩
  refine List.forall_mem_cons.mpr ⟨kp_bin (f := fun x y => (x.toUInt32 >>> (y.toUInt32 &&& Int32.toUInt32 31)).toInt32), ?_⟩
  refine List.forall_mem_cons.mpr ⟨kp_bin (f := fun x y => x + y), ?_⟩
  refine List.forall_mem_cons.mpr ⟨kp_istore, ?_⟩
  refine List.forall_mem_cons.mpr ⟨kp_iload, ?_⟩
  refine List.forall_mem_cons.mpr ⟨kp_iload, ?_⟩
  refine List.forall_mem_cons.mpr ⟨kp_const, ?_⟩
  refine List.forall_mem_cons.mpr ⟨kp_bin (f := fun x y => (x.toUInt32 >>> (y.toUInt32 &&& Int32.toUInt32 31)).toInt32), ?_⟩
  refine List.forall_mem_cons.mpr ⟨kp_bin (f := fun x y => x + y), ?_⟩
  refine List.forall_mem_cons.mpr ⟨kp_istore, ?_⟩
  refine List.forall_mem_cons.mpr ⟨kp_iload, ?_⟩
  refine List.forall_mem_cons.mpr ⟨kp_const, ?_⟩
  refine List.forall_mem_cons.mpr ⟨kp_bin (f := fun x y => x &&& y), ?_⟩
  refine List.forall_mem_cons.mpr ⟨kp_iret, ?_⟩
  exact List.forall_mem_nil _
theorem kqJ7_fill_53178 : ∀ q ∈ tJ7_fill_53178, KP q.2 := by
  unfold tJ7_fill_53178
  refine List.forall_mem_cons.mpr ⟨kp_const, ?_⟩
  refine List.forall_mem_cons.mpr ⟨kp_istore, ?_⟩
  refine List.forall_mem_cons.mpr ⟨kp_aload, ?_⟩
  refine List.forall_mem_cons.mpr ⟨kp_alen, ?_⟩
  refine List.forall_mem_cons.mpr ⟨kp_istore, ?_⟩
  refine List.forall_mem_cons.mpr ⟨kp_iload, ?_⟩
  refine List.forall_mem_cons.mpr ⟨kp_iload, ?_⟩
  refine List.forall_mem_cons.mpr ⟨kp_icmp, ?_⟩
  refine List.forall_mem_cons.mpr ⟨kp_aload, ?_⟩
  refine List.forall_mem_cons.mpr ⟨kp_iload, ?_⟩
  refine List.forall_mem_cons.mpr ⟨kp_iload, ?_⟩
  refine List.forall_mem_cons.mpr ⟨kp_iast, ?_⟩
  refine List.forall_mem_cons.mpr ⟨kp_iinc, ?_⟩
  refine List.forall_mem_cons.mpr ⟨kp_goto, ?_⟩
  refine List.forall_mem_cons.mpr ⟨kp_vret, ?_⟩
  exact List.forall_mem_nil _
theorem kq_all : ∀ e ∈ mAll, ∀ q ∈ e.2, KP q.2 := by
  unfold mAll
  refine List.forall_mem_cons.mpr ⟨kqX0_init, ?_⟩
  refine List.forall_mem_cons.mpr ⟨kqX0_fill, ?_⟩
  refine List.forall_mem_cons.mpr ⟨kqX0_span, ?_⟩
  refine List.forall_mem_cons.mpr ⟨kqX0_spansSlot, ?_⟩
  refine List.forall_mem_cons.mpr ⟨kqX0_meets, ?_⟩
  refine List.forall_mem_cons.mpr ⟨kqX0_isOneWith, ?_⟩
  refine List.forall_mem_cons.mpr ⟨kqX0_isSameAs, ?_⟩
  refine List.forall_mem_cons.mpr ⟨kqX1_init, ?_⟩
  refine List.forall_mem_cons.mpr ⟨kqX1_survey, ?_⟩
  refine List.forall_mem_cons.mpr ⟨kqX1_factAt, ?_⟩
  refine List.forall_mem_cons.mpr ⟨kqX1_at, ?_⟩
  refine List.forall_mem_cons.mpr ⟨kqX1_firstDoubted, ?_⟩
  refine List.forall_mem_cons.mpr ⟨kqX1_layNotices, ?_⟩
  refine List.forall_mem_cons.mpr ⟨kqX1_layNotice, ?_⟩
  refine List.forall_mem_cons.mpr ⟨kqX1_pushByOvers, ?_⟩
  refine List.forall_mem_cons.mpr ⟨kqX1_pushByOver, ?_⟩
  refine List.forall_mem_cons.mpr ⟨kqX1_collectShowings, ?_⟩
  refine List.forall_mem_cons.mpr ⟨kqX1_endOfRun, ?_⟩
  refine List.forall_mem_cons.mpr ⟨kqX1_addShowing, ?_⟩
  refine List.forall_mem_cons.mpr ⟨kqX1_leastOneOf, ?_⟩
  refine List.forall_mem_cons.mpr ⟨kqX2_init, ?_⟩
  refine List.forall_mem_cons.mpr ⟨kqX2_isNotice, ?_⟩
  refine List.forall_mem_cons.mpr ⟨kqX2_isWordOf, ?_⟩
  refine List.forall_mem_cons.mpr ⟨kqX2_hasSlot, ?_⟩
  refine List.forall_mem_cons.mpr ⟨kqX2_trust, ?_⟩
  refine List.forall_mem_cons.mpr ⟨kqX3_init, ?_⟩
  refine List.forall_mem_cons.mpr ⟨kqX3_hasChannel, ?_⟩
  refine List.forall_mem_cons.mpr ⟨kqX3_isKnown, ?_⟩
  refine List.forall_mem_cons.mpr ⟨kqX3_sourceAt, ?_⟩
  refine List.forall_mem_cons.mpr ⟨kqX3_rankedAt, ?_⟩
  refine List.forall_mem_cons.mpr ⟨kqX3_factAt, ?_⟩
  refine List.forall_mem_cons.mpr ⟨kqX3_addSource, ?_⟩
  refine List.forall_mem_cons.mpr ⟨kqX3_tell, ?_⟩
  refine List.forall_mem_cons.mpr ⟨kqX3_latestWord, ?_⟩
  refine List.forall_mem_cons.mpr ⟨kqX4_init, ?_⟩
  refine List.forall_mem_cons.mpr ⟨kqX4_at, ?_⟩
  refine List.forall_mem_cons.mpr ⟨kqX4_gather, ?_⟩
  refine List.forall_mem_cons.mpr ⟨kqX4_prepare, ?_⟩
  refine List.forall_mem_cons.mpr ⟨kqX4_hasUnderWay, ?_⟩
  refine List.forall_mem_cons.mpr ⟨kqX4_markEarlier, ?_⟩
  refine List.forall_mem_cons.mpr ⟨kqX4_settle, ?_⟩
  refine List.forall_mem_cons.mpr ⟨kqX4_explain, ?_⟩
  refine List.forall_mem_cons.mpr ⟨kqX4_whyNot, ?_⟩
  refine List.forall_mem_cons.mpr ⟨kqX4_rivalOf, ?_⟩
  refine List.forall_mem_cons.mpr ⟨kqX4_memberOneWith, ?_⟩
  refine List.forall_mem_cons.mpr ⟨kqX4_isCrowdedWith, ?_⟩
  refine List.forall_mem_cons.mpr ⟨kqX4_membersOn, ?_⟩
  refine List.forall_mem_cons.mpr ⟨kqX4_lightestMemberMeeting, ?_⟩
  refine List.forall_mem_cons.mpr ⟨kqX5_init, ?_⟩
  refine List.forall_mem_cons.mpr ⟨kqX5_choose, ?_⟩
  refine List.forall_mem_cons.mpr ⟨kqX5_search, ?_⟩
  refine List.forall_mem_cons.mpr ⟨kqX5_canBeatBest, ?_⟩
  refine List.forall_mem_cons.mpr ⟨kqX5_keepAsBest, ?_⟩
  refine List.forall_mem_cons.mpr ⟨kqX5_canAdd, ?_⟩
  refine List.forall_mem_cons.mpr ⟨kqX5_addOrDrop, ?_⟩
  refine List.forall_mem_cons.mpr ⟨kqX6_init, ?_⟩
  refine List.forall_mem_cons.mpr ⟨kqX6_fill, ?_⟩
  refine List.forall_mem_cons.mpr ⟨kqX6_isDoubtedWith, ?_⟩
  refine List.forall_mem_cons.mpr ⟨kqX7_init, ?_⟩
  refine List.forall_mem_cons.mpr ⟨kqX7_outranks, ?_⟩
  refine List.forall_mem_cons.mpr ⟨kqX8_init, ?_⟩
  refine List.forall_mem_cons.mpr ⟨kqX8_append, ?_⟩
  refine List.forall_mem_cons.mpr ⟨kqX8_rewind, ?_⟩
  refine List.forall_mem_cons.mpr ⟨kqX8_advance, ?_⟩
  refine List.forall_mem_cons.mpr ⟨kqX8_scanWord, ?_⟩
  refine List.forall_mem_cons.mpr ⟨kqX8_scanInt, ?_⟩
  refine List.forall_mem_cons.mpr ⟨kqX8_scanSign, ?_⟩
  refine List.forall_mem_cons.mpr ⟨kqX8_byteAt, ?_⟩
  refine List.forall_mem_cons.mpr ⟨kqX8_isBlank, ?_⟩
  refine List.forall_mem_cons.mpr ⟨kqX8_isLetter, ?_⟩
  refine List.forall_mem_cons.mpr ⟨kqX8_isDigit, ?_⟩
  refine List.forall_mem_cons.mpr ⟨kqX8_kindOfPair, ?_⟩
  refine List.forall_mem_cons.mpr ⟨kqX8_kindOfSign, ?_⟩
  refine List.forall_mem_cons.mpr ⟨kqX8_kindOfWord, ?_⟩
  refine List.forall_mem_cons.mpr ⟨kqX9_init, ?_⟩
  refine List.forall_mem_cons.mpr ⟨kqX9_compile, ?_⟩
  refine List.forall_mem_cons.mpr ⟨kqX9_startOver, ?_⟩
  refine List.forall_mem_cons.mpr ⟨kqX9_fail, ?_⟩
  refine List.forall_mem_cons.mpr ⟨kqX9_accept, ?_⟩
  refine List.forall_mem_cons.mpr ⟨kqX9_goesOnWith, ?_⟩
  refine List.forall_mem_cons.mpr ⟨kqX9_beginsOperand, ?_⟩
  refine List.forall_mem_cons.mpr ⟨kqX9_followsLiteral, ?_⟩
  refine List.forall_mem_cons.mpr ⟨kqX9_followsOperand, ?_⟩
  refine List.forall_mem_cons.mpr ⟨kqX9_isArithmetic, ?_⟩
  refine List.forall_mem_cons.mpr ⟨kqX9_isComparison, ?_⟩
  refine List.forall_mem_cons.mpr ⟨kqX9_isTooMuch, ?_⟩
  refine List.forall_mem_cons.mpr ⟨kqX9_take, ?_⟩
  refine List.forall_mem_cons.mpr ⟨kqX9_takeAmount, ?_⟩
  refine List.forall_mem_cons.mpr ⟨kqX9_takeOperand, ?_⟩
  refine List.forall_mem_cons.mpr ⟨kqX9_takeOperator, ?_⟩
  refine List.forall_mem_cons.mpr ⟨kqX9_putOff, ?_⟩
  refine List.forall_mem_cons.mpr ⟨kqX9_writeTighter, ?_⟩
  refine List.forall_mem_cons.mpr ⟨kqX9_tightness, ?_⟩
  refine List.forall_mem_cons.mpr ⟨kqX10_init, ?_⟩
  refine List.forall_mem_cons.mpr ⟨kqX10_clear, ?_⟩
  refine List.forall_mem_cons.mpr ⟨kqX10_write, ?_⟩
  refine List.forall_mem_cons.mpr ⟨kqX10_endRule, ?_⟩
  refine List.forall_mem_cons.mpr ⟨kqX10_weigh, ?_⟩
  refine List.forall_mem_cons.mpr ⟨kqX10_isMet, ?_⟩
  refine List.forall_mem_cons.mpr ⟨kqX10_valueOf, ?_⟩
  refine List.forall_mem_cons.mpr ⟨kqX10_join, ?_⟩
  refine List.forall_mem_cons.mpr ⟨kqX11_init, ?_⟩
  refine List.forall_mem_cons.mpr ⟨kqX11_feed, ?_⟩
  refine List.forall_mem_cons.mpr ⟨kqX11_back, ?_⟩
  refine List.forall_mem_cons.mpr ⟨kqX11_read, ?_⟩
  refine List.forall_mem_cons.mpr ⟨kqX11_place, ?_⟩
  refine List.forall_mem_cons.mpr ⟨kqX11_channels, ?_⟩
  refine List.forall_mem_cons.mpr ⟨kqX11_source, ?_⟩
  refine List.forall_mem_cons.mpr ⟨kqX11_notice, ?_⟩
  refine List.forall_mem_cons.mpr ⟨kqX11_over, ?_⟩
  refine List.forall_mem_cons.mpr ⟨kqX11_recorder, ?_⟩
  refine List.forall_mem_cons.mpr ⟨kqX11_clock, ?_⟩
  refine List.forall_mem_cons.mpr ⟨kqX11_sent, ?_⟩
  refine List.forall_mem_cons.mpr ⟨kqX11_says, ?_⟩
  refine List.forall_mem_cons.mpr ⟨kqX11_showing, ?_⟩
  refine List.forall_mem_cons.mpr ⟨kqX11_showings, ?_⟩
  refine List.forall_mem_cons.mpr ⟨kqX11_holds, ?_⟩
  refine List.forall_mem_cons.mpr ⟨kqX11_plan, ?_⟩
  refine List.forall_mem_cons.mpr ⟨kqX11_candidate, ?_⟩
  refine List.forall_mem_cons.mpr ⟨kqX11_count, ?_⟩
  refine List.forall_mem_cons.mpr ⟨kqX11_countInPlan, ?_⟩
  refine List.forall_mem_cons.mpr ⟨kqX11_findShowing, ?_⟩
  refine List.forall_mem_cons.mpr ⟨kqX12_init, ?_⟩
  refine List.forall_mem_cons.mpr ⟨kqX12_feed, ?_⟩
  refine List.forall_mem_cons.mpr ⟨kqX12_put, ?_⟩
  refine List.forall_mem_cons.mpr ⟨kqX12_back, ?_⟩
  refine List.forall_mem_cons.mpr ⟨kqX12_at, ?_⟩
  refine List.forall_mem_cons.mpr ⟨kqX12_isDigit, ?_⟩
  refine List.forall_mem_cons.mpr ⟨kqX12_isLetter, ?_⟩
  refine List.forall_mem_cons.mpr ⟨kqX12_more, ?_⟩
  refine List.forall_mem_cons.mpr ⟨kqX12_word, ?_⟩
  refine List.forall_mem_cons.mpr ⟨kqX12_token, ?_⟩
  refine List.forall_mem_cons.mpr ⟨kqX12_cut, ?_⟩
  refine List.forall_mem_cons.mpr ⟨kqX12_sign, ?_⟩
  refine List.forall_mem_cons.mpr ⟨kqX12_is, ?_⟩
  refine List.forall_mem_cons.mpr ⟨kqX12_fail, ?_⟩
  refine List.forall_mem_cons.mpr ⟨kqX12_wrong, ?_⟩
  refine List.forall_mem_cons.mpr ⟨kqX12_next, ?_⟩
  refine List.forall_mem_cons.mpr ⟨kqX12_must, ?_⟩
  refine List.forall_mem_cons.mpr ⟨kqX12_read, ?_⟩
  refine List.forall_mem_cons.mpr ⟨kqX12_place, ?_⟩
  refine List.forall_mem_cons.mpr ⟨kqX12_tellRule, ?_⟩
  refine List.forall_mem_cons.mpr ⟨kqX12_literal, ?_⟩
  refine List.forall_mem_cons.mpr ⟨kqX12_emit, ?_⟩
  refine List.forall_mem_cons.mpr ⟨kqX12_comesOut, ?_⟩
  refine List.forall_mem_cons.mpr ⟨kqX12_expression, ?_⟩
  refine List.forall_mem_cons.mpr ⟨kqX12_isChannel, ?_⟩
  refine List.forall_mem_cons.mpr ⟨kqX12_isSlot, ?_⟩
  refine List.forall_mem_cons.mpr ⟨kqX12_isKnown, ?_⟩
  refine List.forall_mem_cons.mpr ⟨kqX12_channels, ?_⟩
  refine List.forall_mem_cons.mpr ⟨kqX12_source, ?_⟩
  refine List.forall_mem_cons.mpr ⟨kqX12_notice, ?_⟩
  refine List.forall_mem_cons.mpr ⟨kqX12_over, ?_⟩
  refine List.forall_mem_cons.mpr ⟨kqX12_recorder, ?_⟩
  refine List.forall_mem_cons.mpr ⟨kqX12_clock, ?_⟩
  refine List.forall_mem_cons.mpr ⟨kqX12_hears, ?_⟩
  refine List.forall_mem_cons.mpr ⟨kqX12_makes, ?_⟩
  refine List.forall_mem_cons.mpr ⟨kqX12_pushes, ?_⟩
  refine List.forall_mem_cons.mpr ⟨kqX12_shows, ?_⟩
  refine List.forall_mem_cons.mpr ⟨kqX12_areOne, ?_⟩
  refine List.forall_mem_cons.mpr ⟨kqX12_sent, ?_⟩
  refine List.forall_mem_cons.mpr ⟨kqX12_says, ?_⟩
  refine List.forall_mem_cons.mpr ⟨kqX12_variable, ?_⟩
  refine List.forall_mem_cons.mpr ⟨kqX12_value, ?_⟩
  refine List.forall_mem_cons.mpr ⟨kqX12_leastOne, ?_⟩
  refine List.forall_mem_cons.mpr ⟨kqX12_isTrue, ?_⟩
  refine List.forall_mem_cons.mpr ⟨kqX12_isHeld, ?_⟩
  refine List.forall_mem_cons.mpr ⟨kqX12_weightOf, ?_⟩
  refine List.forall_mem_cons.mpr ⟨kqX12_showings, ?_⟩
  refine List.forall_mem_cons.mpr ⟨kqX12_showing, ?_⟩
  refine List.forall_mem_cons.mpr ⟨kqX12_holds, ?_⟩
  refine List.forall_mem_cons.mpr ⟨kqX12_begins, ?_⟩
  refine List.forall_mem_cons.mpr ⟨kqX12_meet, ?_⟩
  refine List.forall_mem_cons.mpr ⟨kqX12_areAlike, ?_⟩
  refine List.forall_mem_cons.mpr ⟨kqX12_roomOf, ?_⟩
  refine List.forall_mem_cons.mpr ⟨kqX12_isThin, ?_⟩
  refine List.forall_mem_cons.mpr ⟨kqX12_isPlan, ?_⟩
  refine List.forall_mem_cons.mpr ⟨kqX12_plan, ?_⟩
  refine List.forall_mem_cons.mpr ⟨kqX12_finds, ?_⟩
  refine List.forall_mem_cons.mpr ⟨kqX12_reasons, ?_⟩
  refine List.forall_mem_cons.mpr ⟨kqX12_candidate, ?_⟩
  refine List.forall_mem_cons.mpr ⟨kqX12_count, ?_⟩
  refine List.forall_mem_cons.mpr ⟨kqJ6_bitCount_0f7a4, ?_⟩
  refine List.forall_mem_cons.mpr ⟨kqJ7_fill_53178, ?_⟩
  exact List.forall_mem_nil _
theorem kq_lk : ∀ (t : mT) (pc : Nat), (∀ q ∈ t, KP q.2) → KP (mLk t pc)
  | [], _, _ => kp_stuck
  | (p, o) :: t, pc, h => by
    rw [mLk]
    cases Nat.beq p pc with
    | false => exact kq_lk t pc (fun q hq => h q (List.mem_cons_of_mem _ hq))
    | true => exact h (p, o) List.mem_cons_self
theorem kq_run {C : mC} (hC : ∀ y as M r, C y as M r → kK M r.2) {t : mT} (ht : ∀ q ∈ t, KP q.2) : ∀ (k : Nat) (x : mS) (r : mV × mM), mRun C t k x r → kK x.2.2.2 r.2
  | 0, _, _, h => h.elim
  | k + 1, x, r, h => by
    rcases h with h | ⟨x', h1, h2⟩
    · exact kq_lk t x.1 ht C hC _ _ _ _ h
    · exact kK.trans (kq_lk t x.1 ht C hC _ _ _ _ h1) (kq_run hC ht k x' r h2)
theorem kq_mc : ∀ (d y : Nat) (as : List mV) (M : mM) (r : mV × mM), mc d y as M r → kK M r.2
  | 0, _, _, _, _, h => h.elim
  | d + 1, y, as, M, r, h => by
    obtain ⟨-, k, hr⟩ := h
    have ht : ∀ q ∈ (mAll.getD y mDf).2, KP q.2 := by
      rw [List.getD_eq_getElem?_getD]
      cases hy : mAll[y]? with
      | none => exact fun q hq => by cases hq
      | some e => exact kq_all e (List.mem_of_getElem? hy)
    exact kq_run (kq_mc d) ht k _ r hr
