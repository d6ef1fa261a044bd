/-! WHAT A LAUNCH'S TABLES SAY, at any state of a run: carried through every call. -/
def en (E : gE) (U : State) : Prop := va_K E.1 vwCl E.2.1 U ∧ E.2.1.map Prod.snd = atyL
theorem en_warm {E : gE} {s U : State} (hW : s.WarmedH U.vm) (h : en E s) : en E U := ⟨va_K.moved hW.alike h.1, h.2⟩
theorem en_same {E : gE} {U U' : State} (hv : U'.vm = U.vm) (h : en E U) : en E U' := ⟨va_K.moved (by rw [hv]; exact Vm.Alike.refl _) h.1, h.2⟩
