theorem up_le {f : Nat → Nat} {B p x : Nat} (h : ∀ k, f k ≤ B) (hx : x ≤ B) : ∀ k, va_up f p x k ≤ B := by
  intro k; rw [up_app]; split
  · exact hx
  · exact h k
theorem clrF_3 {la : Nat → Nat → Nat} {pe : Nat} (h : ∀ a o, a < 6 → o < 6 → la a o ≤ 3) : ∀ a o, a < 6 → o < 6 → clrF la pe 6 a o ≤ 3 := by
  intro a o ha ho; rw [clr_at]; split
  · omega
  · exact h a o ha ho
theorem setF_3 {la : Nat → Nat → Nat} {pe : Nat} (h : ∀ a o, a < 6 → o < 6 → la a o ≤ 3) : ∀ a o, a < 6 → o < 6 → setF la (fun _ => 0) pe 6 a o ≤ 3 := by
  intro a o ha ho; unfold setF; split
  · exact Nat.zero_le _
  · exact h a o ha ho
theorem clrY_3 {ly : Nat → Nat} {pe : Nat} (h : ∀ q, ly q ≤ 3) : ∀ q, clrY ly pe 6 q ≤ 3 := by
  intro q; unfold clrY; split
  · omega
  · exact h q
theorem rowY_3 {ly : Nat → Nat} {pe : Nat} (h : ∀ q, ly q ≤ 3) : ∀ q, rowY ly pe 6 q ≤ 3 := by
  intro q; unfold rowY; split
  · omega
  · exact h q
theorem remO_6 {o : Option Nat} {pe : Nat} (h : ∀ j, o = some j → j < 6) : ∀ j, remO o pe = some j → j < 6 := by
  intro j hj; unfold remO at hj; split at hj
  · cases hj
  · exact h j hj
theorem pnup_6 {pn : Nat → Option Nat} {pe : Nat} {ot : Option Nat} (h : ∀ r j, pn r = some j → j < 6) (ho : ∀ j, ot = some j → j < 6) : ∀ r j, va_up pn pe ot r = some j → j < 6 := by
  intro r j hj; rw [up_app] at hj; split at hj
  · exact ho j hj
  · exact h r j hj
theorem up_in {he : Nat → Bool} {pu : List Nat} {pe : Nat} (h : ∀ j, pu.contains j = true → he j = true) : ∀ j, pu.contains j = true → va_up he pe true j = true := by
  intro j hj; rw [up_app]; split
  · rfl
  · exact h j hj
theorem notin_he {he : Nat → Bool} {pu : List Nat} {pe : Nat} (h : ∀ j, pu.contains j = true → he j = true) (hh : he pe = false) : pu.contains pe = false :=
  Bool.eq_false_iff.mpr fun q => by rw [h pe q] at hh; cases hh
theorem in_mem {he : Nat → Bool} {pu : List Nat} (h : ∀ j, pu.contains j = true → he j = true) : ∀ j ∈ pu, he j = true := fun j hj => h j (by simpa using hj)
