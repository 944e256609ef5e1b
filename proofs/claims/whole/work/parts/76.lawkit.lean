-- which exception is caught by which row
theorem castable_moved {E N : String} {u U : State} (hvm : u.vm.Alike U.vm) (h : va_Nw (.castable E N) u) : va_Nw (.castable E N) U := by
  unfold va_Nw at h ⊢
  simp only [Cond.before, Cond.holds, Cond.value] at h ⊢
  rw [hvm.findClass, hvm.findClass]
  first | (simp only [hvm.assignable]; exact h) | exact h
def XL (U : State) : Prop := va_Nw (.castable eNS eNS) U ∧ va_Nw (.castable eIS eIS) U ∧ va_Nw (.castable eIA eIA) U ∧ va_Nw (.castable eIO eIO) U ∧ va_Nc eIS eNS U ∧ va_Nc eIA eNS U ∧ va_Nc eIO eNS U
theorem XL.moved {u U : State} (hvm : u.vm.Alike U.vm) (h : XL u) : XL U := by
  obtain ⟨a, b, c, d, e, f, g⟩ := h
  exact ⟨castable_moved hvm a, castable_moved hvm b, castable_moved hvm c, castable_moved hvm d, va_Nc.moved hvm e, va_Nc.moved hvm f, va_Nc.moved hvm g⟩
