section RL
variable {he : Nat → Bool} {pu : List Nat} {lo : Option Nat} {ls : Nat} {ta la : Nat → Nat → Nat} {kc : Nat → Nat} {ak : Nat → Bool} {rn : Nat} {ly : Nat → Nat} {pe : Nat}
theorem clr_at (r p : Nat) : clrF la pe 6 r p = if r < 6 ∧ p = pe then 0 else la r p := rfl
theorem clrY_at {r p : Nat} (hr : r < 6) (hp : p < 6) : clrY ly pe 6 (6 * r + p) = if p = pe then 0 else ly (6 * r + p) := by
  unfold clrY
  have e2 : (6 * r + p) % 6 = p := by omega
  by_cases e : p = pe
  · rw [if_pos e, if_pos ⟨by omega, by rw [e2]; exact e⟩]
  · rw [if_neg e, if_neg (fun q => e (e2.symm.trans q.2))]
theorem rowY_at {r p : Nat} (hp : p < 6) : rowY ly pe 6 (6 * r + p) = if r = pe then 0 else ly (6 * r + p) := by
  unfold rowY
  by_cases e : r = pe
  · subst e; rw [if_pos rfl, if_pos ⟨by omega, by omega⟩]
  · rw [if_neg e, if_neg (by omega)]
theorem kc_up (h : kc pe = 0) : va_up kc pe 0 = kc := by
  funext j; rw [up_app]; split
  · next e => rw [e, h]
  · rfl
theorem ak_up (h : ak pe = false) : va_up ak pe false = ak := by
  funext j; rw [up_app]; split
  · next e => rw [e, h]
  · rfl
theorem join_rel (hpe : pe < 6) (hh : he pe = false) (hin : ∀ j ∈ pu, he j = true) (h : dynR he pu lo ls ta la kc ak rn ly) : dynR (va_up he pe true) pu lo ls ta la kc ak rn (rowY (clrY ly pe 6) pe 6) ∧ va_up kc pe 0 = kc ∧ va_up ak pe false = ak := by
  obtain ⟨hrn, hr, hi, hz, ha, hk⟩ := h
  have hc : pu.contains pe = false := Bool.eq_false_iff.mpr fun q => by
    have := hin pe (by simpa using q)
    rw [hh] at this; cases this
  have hof : ∀ r, va_up he pe true r = false → he r = false := by
    intro r q
    rw [up_app] at q
    split at q
    · cases q
    · exact q
  refine ⟨⟨hrn, fun r p hr6 hp6 q => ?_, ⟨fun r p hr6 hp6 q => hi.1 r p hr6 hp6 (hof r q), hi.2.1, hi.2.2⟩, fun r p hr6 hp6 q => hz r p hr6 hp6 (hof r q), ha, hk⟩, kc_up (hk pe hpe hc), ak_up (Bool.eq_false_iff.mpr fun q => by rw [ha pe hpe q] at hc; cases hc)⟩
  rw [rowY_at hp6]
  by_cases e : r = pe
  · rw [if_pos e, e, hi.1 pe p hpe hp6 hh]
  · rw [if_neg e, clrY_at hr6 hp6]
    rw [up_app, if_neg e] at q
    by_cases f : p = pe
    · rw [if_pos f, f, hi.2.2 r pe hr6 hpe hc]
    · rw [if_neg f]; exact hr r p hr6 hp6 q
theorem clr_rel (h : relL he la ly) : relL he (clrF la pe 6) (clrY ly pe 6) := by
  intro r p hr6 hp6 q
  rw [clrY_at hr6 hp6, clr_at]
  by_cases f : p = pe
  · rw [if_pos f, if_pos ⟨hr6, f⟩]
  · rw [if_neg f, if_neg (fun a => f a.2)]; exact h r p hr6 hp6 q
theorem clr_0 {r p : Nat} (h : la r p = 0) : clrF la pe 6 r p = 0 := by
  rw [clr_at]; split
  · rfl
  · exact h
theorem clr_inv {pu' : List Nat} (hpu : ∀ p, pu'.contains p = false → p = pe ∨ pu.contains p = false) (h : invL he pu la) : invL he pu' (clrF la pe 6) :=
  ⟨fun r p hr6 hp6 q => clr_0 (h.1 r p hr6 hp6 q), fun p hp => clr_0 (h.2.1 p hp), fun r p hr6 hp6 q => by
    rcases hpu p q with e | e
    · rw [clr_at, if_pos ⟨hr6, e⟩]
    · exact clr_0 (h.2.2 r p hr6 hp6 e)⟩
theorem up_inv {pu' : List Nat} (hpu : ∀ p, pu.contains p = true → p ≠ pe → pu'.contains p = true) (h : invA pu ak) : invA pu' (va_up ak pe false) := by
  intro p hp q
  rw [up_app] at q
  by_cases e : p = pe
  · rw [if_pos e] at q; cases q
  · rw [if_neg e] at q; exact hpu p (h p hp q) e
theorem up_kc {pu' : List Nat} (hpu : ∀ p, pu'.contains p = false → p = pe ∨ pu.contains p = false) (h : ∀ p, p < 6 → pu.contains p = false → kc p = 0) : ∀ p, p < 6 → pu'.contains p = false → va_up kc pe 0 p = 0 := by
  intro p hp q
  rw [up_app]
  split
  · rfl
  · next e =>
    rcases hpu p q with f | f
    · exact absurd f e
    · exact h p hp f
theorem end_rel (h : dynR he pu lo ls ta la kc ak rn ly) : dynR he (dropL pu pe) lo ls ta (clrF la pe 6) (va_up kc pe 0) (va_up ak pe false) rn (clrY ly pe 6) := by
  obtain ⟨hrn, hr, hi, hz, ha, hk⟩ := h
  exact ⟨hrn, clr_rel hr, clr_inv (fun p q => cont_drop_f q) hi, hz, up_inv (fun p a b => cont_drop.mpr ⟨a, b⟩) ha, up_kc (fun p q => cont_drop_f q) hk⟩
theorem pub_rel (h : dynR he pu lo ls ta la kc ak rn ly) : dynR he (dropL pu pe ++ [pe]) lo ls ta (clrF la pe 6) (va_up kc pe 0) (va_up ak pe false) rn (clrY ly pe 6) := by
  obtain ⟨hrn, hr, hi, hz, ha, hk⟩ := h
  exact ⟨hrn, clr_rel hr, clr_inv (fun p q => Or.inr (cont_put_f q).2) hi, hz, up_inv (fun p a b => cont_put.mpr (Or.inl a)) ha, up_kc (fun p q => Or.inr (cont_put_f q).2) hk⟩
theorem leave_rel (hpe : pe < 6) (h : dynR he pu lo ls ta la kc ak rn ly) : dynR (va_up he pe false) (dropL pu pe) (remO lo pe) ls (setF ta (fun _ => 0) pe 6) (setF (clrF la pe 6) (fun _ => 0) pe 6) (va_up kc pe 0) (va_up ak pe false) rn (clrY ly pe 6) := by
  obtain ⟨hrn, hr, hi, hz, ha, hk⟩ := h
  have hci : invL he (dropL pu pe) (clrF la pe 6) := clr_inv (fun p q => cont_drop_f q) hi
  have hset : ∀ (M : Nat → Nat → Nat) (r p : Nat), M r p = 0 → setF M (fun _ => 0) pe 6 r p = 0 := by
    intro M r p q
    unfold setF; split
    · rfl
    · exact q
  have hset2 : ∀ (M : Nat → Nat → Nat) (r p : Nat), r ≠ pe → setF M (fun _ => 0) pe 6 r p = M r p := by
    intro M r p q
    unfold setF; rw [if_neg (fun a => q a.1)]
  have hset3 : ∀ (M : Nat → Nat → Nat) (p : Nat), p < 6 → setF M (fun _ => 0) pe 6 pe p = 0 := by
    intro M p q
    unfold setF; rw [if_pos ⟨rfl, q⟩]
  refine ⟨fun q => hrn (fun e => q (by rw [e]; rfl)), fun r p hr6 hp6 q => ?_, ⟨fun r p hr6 hp6 q => ?_, fun p hp => hset _ _ _ (hci.2.1 p hp), fun r p hr6 hp6 q => hset _ _ _ (hci.2.2 r p hr6 hp6 q)⟩, fun r p hr6 hp6 q => ?_, up_inv (fun p a b => cont_drop.mpr ⟨a, b⟩) ha, up_kc (fun p q => cont_drop_f q) hk⟩
  · rw [up_app] at q
    by_cases e : r = pe
    · rw [if_pos e] at q; cases q
    · rw [if_neg e] at q
      rw [hset2 _ _ _ e]
      exact clr_rel hr r p hr6 hp6 q
  · by_cases e : r = pe
    · subst e; exact hset3 _ p hp6
    · rw [up_app, if_neg e] at q
      exact hset _ _ _ (hci.1 r p hr6 hp6 q)
  · by_cases e : r = pe
    · subst e; exact hset3 _ p hp6
    · rw [up_app, if_neg e] at q
      exact hset _ _ _ (hz r p hr6 hp6 q)
end RL
