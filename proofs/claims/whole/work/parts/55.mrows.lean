theorem up_up {α : Type} (f : Nat → α) (k : Nat) (x y : α) : va_up (va_up f k x) k y = va_up f k y := by
  funext j
  rw [up_app, up_app, up_app]
  split <;> rfl
theorem up_same {α : Type} (f : Nat → α) (k : Nat) : va_up f k (f k) = f := by
  funext j
  rw [up_app]
  split
  · next h => rw [h]
  · rfl
def rowY (ly : Nat → Nat) (p k : Nat) : Nat → Nat := fun q => if 6 * p ≤ q ∧ q < 6 * p + k then 0 else ly q
theorem rowY_0 (ly : Nat → Nat) (p : Nat) : ly = rowY ly p 0 := by
  funext q
  unfold rowY
  rw [if_neg (by omega)]
theorem rowY_s (ly : Nat → Nat) (p k : Nat) : va_up (rowY ly p k) (6 * p + k) 0 = rowY ly p (k + 1) := by
  funext q
  rw [up_app]
  unfold rowY
  by_cases h : q = 6 * p + k
  · rw [if_pos h, if_pos (by omega)]
  · rw [if_neg h]
    by_cases h2 : 6 * p ≤ q ∧ q < 6 * p + k
    · rw [if_pos h2, if_pos (by omega)]
    · rw [if_neg h2, if_neg (by omega)]
theorem unpinF_same {pn : Nat → Option Nat} {pe k : Nat} (h : unpinF pn pe k k ≠ some pe) : va_up (unpinF pn pe k) k (unpinF pn pe k k) = unpinF pn pe (k + 1) := by
  rw [up_same]; exact unpinF_no h
