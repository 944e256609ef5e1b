theorem up_up {α : Type} (f : Nat → α) (k : Nat) (x y : α) : va_up (va_up f k x) k y = va_up f k y := by
  funext j
  rw [up_app, up_app, up_app]
  split <;> rfl
theorem up_same {α : Type} (f : Nat → α) (k : Nat) : va_up f k (f k) = f := by
  funext j
  rw [up_app]
  split
  · next h => rw [h]
  · rfl
def rowY (ly : Nat → Nat) (p k : Nat) : Nat → Nat := fun q => if 6 * p ≤ q ∧ q < 6 * p + k then 0 else ly q
theorem rowY_0 (ly : Nat → Nat) (p : Nat) : ly = rowY ly p 0 := by
  funext q
  unfold rowY
  rw [if_neg (by omega)]
theorem rowY_s (ly : Nat → Nat) (p k : Nat) : va_up (rowY ly p k) (6 * p + k) 0 = rowY ly p (k + 1) := by
  funext q
  rw [up_app]
  unfold rowY
  by_cases h : q = 6 * p + k
  · rw [if_pos h, if_pos (by omega)]
  · rw [if_neg h]
    by_cases h2 : 6 * p ≤ q ∧ q < 6 * p + k
    · rw [if_pos h2, if_pos (by omega)]
    · rw [if_neg h2, if_neg (by omega)]
theorem unpinF_same {pn : Nat → Option Nat} {pe k : Nat} (h : unpinF pn pe k k ≠ some pe) : va_up (unpinF pn pe k) k (unpinF pn pe k k) = unpinF pn pe (k + 1) := by
  rw [up_same]; exact unpinF_no h
theorem nI_none {j : Nat} (h : j < 6) : nI j ≠ oI none := by
  intro q
  have h2 : (nI j) < 0 := by rw [q]; decide
  exact absurd h2 (nI_pos (by omega))
theorem inR_out {r : Int32} {n : Nat} (hn : n ≤ 6) (h : r < 0 ∨ ¬ r < nI n) : inR r (nI 0) (nI n - nI 1) = false := by
  rcases h with h | h
  · exact inR_n1 (by rw [show nI 0 = 0 from rfl]; exact h)
  · cases e : inR r (nI 0) (nI n - nI 1) with
    | false => rfl
    | true =>
      exfalso
      cases n with
      | zero =>
        have h1 : inR r (nI 0) (nI 0 - nI 1) = true := e
        simp only [inR, Bool.and_eq_true, decide_eq_true_eq] at h1
        exact h1.1 (Int32.lt_of_le_of_lt h1.2 (by decide))
      | succ n =>
        have h1 : nI (n + 1) - nI 1 = nI n := by
          have := pk_sub (a := n + 1) (b := 1) (by omega)
          exact this
        rw [h1] at e
        obtain ⟨j, -, hj, rfl⟩ := inR_of (by decide) (by omega) e
        exact h ((nI_ltI (by omega) (by omega)).mpr (by omega))
