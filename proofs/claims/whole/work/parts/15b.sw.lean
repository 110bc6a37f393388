theorem WP_sw_cons {C : mC} {t : mT} {ls st : List mV} {M : mM} {Q : mV → mM → Prop} {ps : List (Int × Nat)} {k x : Int} {tg d : Nat} : WP C t (mSw ((k, tg) :: ps) d x) ls st M Q = if x = k then WP C t tg ls st M Q else WP C t (mSw ps d x) ls st M Q := by
  rw [mSw]
  split <;> rfl
theorem WP_sw_nil {C : mC} {t : mT} {ls st : List mV} {M : mM} {Q : mV → mM → Prop} {x : Int} {d : Nat} : WP C t (mSw [] d x) ls st M Q = WP C t d ls st M Q := rfl
