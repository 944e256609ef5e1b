theorem cont_drop {L : List Nat} {p x : Nat} : (dropL L p).contains x = true ↔ L.contains x = true ∧ x ≠ p := by
  simp [dropL]
theorem cont_drop_f {L : List Nat} {p x : Nat} (h : (dropL L p).contains x = false) : x = p ∨ L.contains x = false := by
  by_cases e : x = p
  · exact Or.inl e
  · refine Or.inr (Bool.eq_false_iff.mpr fun q => ?_)
    have := cont_drop.mpr ⟨q, e⟩
    rw [h] at this; cases this
theorem cont_put {L : List Nat} {p x : Nat} : (dropL L p ++ [p]).contains x = true ↔ L.contains x = true ∨ x = p := by
  by_cases e : x = p
  · simp [dropL, e]
  · simp [dropL, e]
theorem cont_put_f {L : List Nat} {p x : Nat} (h : (dropL L p ++ [p]).contains x = false) : x ≠ p ∧ L.contains x = false := by
  refine ⟨fun e => ?_, Bool.eq_false_iff.mpr fun q => ?_⟩
  · have := (cont_put (L := L) (p := p) (x := x)).mpr (Or.inr e); rw [h] at this; cases this
  · have := (cont_put (L := L) (p := p) (x := x)).mpr (Or.inl q); rw [h] at this; cases this
-- the order of the beginnings
def ordB (bg : Nat → Nat) (bn : Nat) (pu : List Nat) : Prop := pu.Pairwise (fun a b => bg a < bg b) ∧ ∀ x ∈ pu, bg x < bn
theorem onR_of {on : Nat → Bool} {bg : Nat → Nat} {bn : Nat} {pu : List Nat} (hg : goodL pu) (ho : ∀ j, j < 6 → on j = pu.contains j) (hb : ordB bg bn pu) : onR on bg bn pu := by
  refine ⟨hg, ho, fun i j hij hj => ?_, fun i hi => hb.2 _ (getD_in hi)⟩
  have h1 : pu.getD i 0 = pu[i]'(by omega) := by rw [List.getD_eq_getElem?_getD, List.getElem?_eq_getElem (by omega)]; rfl
  have h2 : pu.getD j 0 = pu[j] := by rw [List.getD_eq_getElem?_getD, List.getElem?_eq_getElem hj]; rfl
  rw [h1, h2]
  exact (List.pairwise_iff_getElem.mp hb.1) i j (by omega) hj hij
theorem onR_ord {on : Nat → Bool} {bg : Nat → Nat} {bn : Nat} {pu : List Nat} (h : onR on bg bn pu) : ordB bg bn pu := by
  refine ⟨List.pairwise_iff_getElem.mpr fun i j hi hj hij => ?_, fun x hx => ?_⟩
  · have h1 : pu.getD i 0 = pu[i] := by rw [List.getD_eq_getElem?_getD, List.getElem?_eq_getElem hi]; rfl
    have h2 : pu.getD j 0 = pu[j] := by rw [List.getD_eq_getElem?_getD, List.getElem?_eq_getElem hj]; rfl
    have := h.2.2.1 i j hij hj
    rw [h1, h2] at this; exact this
  · obtain ⟨k, hk, e⟩ := mem_of_cont (L := pu) (j := x) (by simpa using hx)
    have := h.2.2.2 k hk
    rw [e] at this; exact this
section OR
variable {on : Nat → Bool} {bg : Nat → Nat} {bn : Nat} {pu : List Nat} {pe : Nat}
theorem onR_drop (h : onR on bg bn pu) : onR (va_up on pe false) bg bn (dropL pu pe) := by
  have hb := onR_ord h
  refine onR_of (h.1.drop pe) (fun j hj => ?_) ⟨List.Pairwise.filter _ hb.1, fun x hx => hb.2 x (List.mem_filter.mp hx).1⟩
  rw [up_app]
  refine bool_eq ?_
  rw [cont_drop]
  by_cases e : j = pe
  · rw [if_pos e]; simp [e]
  · rw [if_neg e, h.2.1 j hj]; simp [e]
theorem onR_put (h : onR on bg bn pu) (hp : pe < 6) : onR (va_up on pe true) (va_up bg pe bn) (bn + 1) (dropL pu pe ++ [pe]) := by
  have hb := onR_ord h
  have hne : ∀ x ∈ dropL pu pe, x ≠ pe := fun x hx q => drop_notin pu pe (q ▸ hx)
  refine onR_of ?_ (fun j hj => ?_) ⟨?_, fun x hx => ?_⟩
  · have hg := h.1.drop pe
    refine ⟨?_, fun x hx => ?_⟩
    · rw [List.nodup_append]
      exact ⟨hg.1, by simp, fun a ha b hb9 => by
        rw [List.mem_singleton.mp hb9]; exact hne a ha⟩
    · rcases List.mem_append.mp hx with q | q
      · exact hg.2 x q
      · rw [List.mem_singleton.mp q]; exact hp
  · rw [up_app]
    refine bool_eq ?_
    rw [cont_put]
    by_cases e : j = pe
    · rw [if_pos e]; simp [e]
    · rw [if_neg e, h.2.1 j hj]; simp [e]
  · rw [List.pairwise_append]
    refine ⟨?_, by simp, fun a ha b hb9 => ?_⟩
    · refine List.Pairwise.imp_of_mem ?_ (List.Pairwise.filter _ hb.1)
      intro a b ha hb9 q
      rw [up_app, up_app, if_neg (hne a ha), if_neg (hne b hb9)]
      exact q
    · rw [List.mem_singleton.mp hb9, up_app, up_app, if_neg (hne a ha), if_pos rfl]
      exact hb.2 a (List.mem_filter.mp ha).1
  · rcases List.mem_append.mp hx with q | q
    · rw [up_app, if_neg (hne x q)]
      have := hb.2 x (List.mem_filter.mp q).1
      omega
    · rw [List.mem_singleton.mp q, up_app, if_pos rfl]; omega
end OR
