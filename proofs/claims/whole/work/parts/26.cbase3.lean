/-! what the makers ask for besides their words: array classes over rows and blocks, the private makers of nest mates -/
def va_AOA' (U : State) : Prop := (Cond.arrayOver (.array .int)).before #[] U = true
theorem va_AOA'.moved {u U : State} (hvm : u.vm.Alike U.vm) (h : va_AOA' u) : va_AOA' U := by
  unfold va_AOA' at h ⊢
  have h2 : (Cond.arrayOver (.array .int)).before #[] (u.setVm U.vm) = true := by rw [Cond.arrayOver_setVm hvm]; exact h
  exact h2
def xM (U : State) : Prop := va_AOA' U ∧ va_AO "PartSketch$Block" U ∧ va_Nw (.methodLinkNest RX4 11 yX0_init RX4) U ∧ va_Nw (.methodLinkNest RX4 21 yX3_init RX4) U ∧ va_Nw (.methodLinkNest RX2 24 yX1_init RX4) U
theorem xM.warm {s U : State} (hW : s.WarmedH U.vm) (z : xM s) : xM U := ⟨z.1.moved hW.alike, z.2.1.moved hW.alike, va_Nw.warmM hW z.2.2.1, va_Nw.warmM hW z.2.2.2.1, va_Nw.warmM hW z.2.2.2.2⟩
