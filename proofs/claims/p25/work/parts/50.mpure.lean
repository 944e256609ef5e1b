-- the model: what its leaves do, as functions
theorem isP6 {r : Int32} (h : inR r (nI 0) (nI 5) = true) : ¬ r < 0 ∧ ¬ nI 6 ≤ r := by
  obtain ⟨j, -, h5, rfl⟩ := inR_of (by decide) (by decide) h
  exact ⟨nI_pos (by omega), fun q => absurd ((nI_leI (by decide) (by omega)).mp q) (by omega)⟩
theorem isP6_no {he : Nat → Bool} {r : Int32} (h : inR r (nI 0) (nI 5) = false) : isP he r = false := by
  cases e : isP he r with
  | false => rfl
  | true =>
    obtain ⟨j, hj, rfl, -⟩ := isP_of e
    rw [inR_nI (by omega) (by decide) (by decide)] at h
    have h2 : decide (j ≤ 5) = true := by simp; omega
    rw [h2] at h
    simp at h
theorem inR_n3 {v lo hi : Int32} (h : hi < v) : inR v lo hi = false := inR_n2 (fun q => absurd h (Int32.not_lt.mpr q))
theorem inR_y2 {v lo hi : Int32} (h : ¬ v < lo) (h2 : ¬ hi < v) : inR v lo hi = true := inR_y h (Int32.not_lt.mp h2)
def shwC (he : Nat → Bool) (pu : List Nat) (pr : Nat) (sv : List Nat) (re : Nat) (ot : Option Nat) (cn : Bool) : Prop := cn = true ↔ ∃ jo, ot = some jo ∧ he jo = true ∧ jo ≠ re ∧ pu.contains jo = true ∧ sv.length < pr
section SC
variable {he : Nat → Bool} {pu : List Nat} {pr : Nat} {sv : List Nat} {re : Nat} {ot : Option Nat} {jo : Nat}
theorem shwC_no (h : ∀ jo, ot = some jo → he jo = true → jo ≠ re → pu.contains jo = true → sv.length < pr → False) : shwC he pu pr sv re ot false :=
  ⟨fun q => absurd q (by simp), fun ⟨jo, a, b, c, d, e⟩ => (h jo a b c d e).elim⟩
theorem shwC_n0 (h : ot = none) : shwC he pu pr sv re ot false := shwC_no fun jo a _ _ _ _ => by rw [h] at a; cases a
theorem shwC_n1 (h : ot = some re) : shwC he pu pr sv re ot false := shwC_no fun jo a _ c _ _ => by rw [h] at a; cases a; exact c rfl
theorem shwC_n2 (h : he jo = false) : shwC he pu pr sv re (some jo) false := shwC_no fun x a b _ _ _ => by cases a; rw [h] at b; cases b
theorem shwC_n3 (h : pu.contains jo = false) : shwC he pu pr sv re (some jo) false := shwC_no fun x a _ _ d _ => by cases a; rw [h] at d; cases d
theorem shwC_n4 (h : pr ≤ sv.length) : shwC he pu pr sv re (some jo) false := shwC_no fun x _ _ _ _ e => absurd e (by omega)
theorem shwC_y (h : he jo = true) (h1 : some jo ≠ some re) (h2 : pu.contains jo = true) (h3 : sv.length < pr) : shwC he pu pr sv re (some jo) true :=
  ⟨fun _ => ⟨jo, rfl, h, fun q => h1 (by rw [q]), h2, h3⟩, fun _ => rfl⟩
end SC
def shwI (sv : List Nat) (ot : Option Nat) (cn : Bool) (i : Nat) (cn2 : Bool) : Prop := cn2 = true ↔ cn = true ∧ ∀ j, j < i → some (sv.getD j 0) ≠ ot
theorem shwI_0 (sv : List Nat) (ot : Option Nat) (cn : Bool) : shwI sv ot cn 0 cn := ⟨fun h => ⟨h, fun j hj => absurd hj (Nat.not_lt_zero _)⟩, fun h => h.1⟩
theorem shwI_no {sv : List Nat} {ot : Option Nat} {cn : Bool} {i : Nat} {cn2 : Bool} (h : shwI sv ot cn i cn2) (hc : cn2 = false) : shwI sv ot cn (i + 1) false :=
  ⟨fun q => absurd q (by simp), fun q => by
    have := h.mpr ⟨q.1, fun j hj => q.2 j (by omega)⟩
    rw [hc] at this; exact this⟩
theorem shwI_hit {sv : List Nat} {svr : Nat → Nat} {ot : Option Nat} {cn : Bool} {i : Nat} {cn2 : Bool} (_ : shwI sv ot cn i cn2) (hi : i < sv.length) (e : svr i = sv.getD i 0) (hc : ot = some (svr i)) : shwI sv ot cn (i + 1) false :=
  ⟨fun q => absurd q (by simp), fun q => absurd (by rw [← e]; exact hc.symm) (q.2 i (by omega))⟩
theorem shwI_go {sv : List Nat} {svr : Nat → Nat} {ot : Option Nat} {cn : Bool} {i : Nat} {cn2 : Bool} (h : shwI sv ot cn i cn2) (h1 : cn2 = true) (hi : i < sv.length) (e : svr i = sv.getD i 0) (hc : ot ≠ some (svr i)) : shwI sv ot cn (i + 1) true :=
  ⟨fun _ => ⟨(h.mp h1).1, fun j hj => by
    by_cases hji : j = i
    · subst hji; rw [← e]; exact fun q => hc q.symm
    · exact (h.mp h1).2 j (by omega)⟩, fun _ => rfl⟩
section SW
variable {he : Nat → Bool} {pu : List Nat} {pr : Nat} {sv : List Nat} {re i : Nat} {ot : Option Nat} {cn cn2 : Bool}
theorem mem_of_cont {L : List Nat} {j : Nat} (h : L.contains j = true) : ∃ k, k < L.length ∧ L.getD k 0 = j := by
  have h1 : j ∈ L := by simpa using h
  obtain ⟨k, hk, e⟩ := List.getElem_of_mem h1
  exact ⟨k, hk, by rw [List.getD_eq_getElem?_getD, List.getElem?_eq_getElem hk]; exact e⟩
theorem cont_of {L : List Nat} {k : Nat} (hk : k < L.length) : L.contains (L.getD k 0) = true := by
  have h : L.getD k 0 ∈ L := getD_in hk
  simpa using h
theorem shw_off (h1 : shwC he pu pr sv re ot cn) (h2 : shwI sv ot cn i cn2) (hi : i = sv.length) (hc : cn2 = false) : showF he pu pr sv re ot = sv := by
  cases ot with
  | none => rfl
  | some jo =>
    by_cases a : he jo = true
    · by_cases b : jo = re
      · exact showF_n1 (by rw [b])
      · by_cases c : pu.contains jo = true
        · by_cases d : sv.length < pr
          · have hn : cn = true := h1.mpr ⟨jo, rfl, a, b, c, d⟩
            by_cases f : sv.contains jo = true
            · exact showF_n4 f
            · have : cn2 = true := h2.mpr ⟨hn, fun j hj q => f (by
                have e : sv.getD j 0 = jo := Option.some.inj q
                rw [← e]; exact cont_of (by omega))⟩
              rw [hc] at this; cases this
          · exact showF_n3 (by omega)
        · exact showF_n2 (Bool.eq_false_iff.mpr c)
    · simp only [showF]
      rw [Bool.eq_false_iff.mpr a]
      simp
theorem shw_yes (h1 : shwC he pu pr sv re ot cn) (h2 : shwI sv ot cn i cn2) (hi : i = sv.length) (ho : ∀ j, ot = some j → j < 6) (hc : cn2 = true) : ∃ jo, ot = some jo ∧ jo < 6 ∧ showF he pu pr sv re (some jo) = sv ++ [jo] := by
  have h3 := h2.mp hc
  obtain ⟨jo, rfl, a, b, c, d⟩ := h1.mp h3.1
  refine ⟨jo, rfl, ho jo rfl, showF_y a (fun q => b (Option.some.inj q)) c d ?_⟩
  cases e : sv.contains jo with
  | false => rfl
  | true =>
    obtain ⟨k, hk, hk2⟩ := mem_of_cont e
    exact absurd (by rw [hk2]) (h3.2 k (by omega))
theorem shw_lt (h1 : shwC he pu pr sv re ot cn) (h2 : shwI sv ot cn i cn2) (hc : cn2 = true) : sv.length < pr := by
  obtain ⟨jo, -, -, -, -, d⟩ := h1.mp (h2.mp hc).1
  exact d
theorem shw_notin {jo : Nat} (h : showF he pu pr sv re (some jo) = sv ++ [jo]) : jo ∉ sv := by
  intro q
  have h2 : showF he pu pr sv re (some jo) = sv := showF_n4 (by simpa using q)
  rw [h2] at h
  have := congrArg List.length h
  simp at this
end SW
