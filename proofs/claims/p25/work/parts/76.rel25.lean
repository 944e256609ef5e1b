/-! p25: the law's own rows beside the class -/
def bN (b : Bool) : Nat := if b then 1 else 0
def relA (he : Nat → Bool) (pl es : Nat → Nat) (pu : List Nat) (ba se th pA eA oA bA sA : Nat → Nat) : Prop :=
  ((∀ k, k < 6 → th k = bN (he k)) ∧ (∀ k, k < 6 → he k = true → pA k = pl k ∧ eA k = es k) ∧ (∀ k, k < 6 → oA k = bN (pu.contains k)) ∧ (∀ k, k < 6 → pu.contains k = true → bA k = ba k ∧ sA k = se k)) ∧ ((∀ k, th k ≤ 1) ∧ (∀ k, pA k ≤ 5) ∧ (∀ k, eA k ≤ 2000) ∧ (∀ k, oA k ≤ 1) ∧ (∀ k, bA k ≤ 100) ∧ (∀ k, sA k ≤ 100))
theorem sumN_add {f : Nat → Nat} {p rt v : Nat} (hr : rt = sumN f p) (h : v = f p) : rt + v = sumN f (p + 1) := by
  have q : sumN f (p + 1) = sumN f p + f p := rfl
  omega
theorem sumN_skip {f : Nat → Nat} {p rt : Nat} (hr : rt = sumN f p) (h : f p = 0) : rt = sumN f (p + 1) := by
  have q : sumN f (p + 1) = sumN f p + f p := rfl
  omega
theorem cnt_skip {f : Nat → Bool} {p al : Nat} (hr : al = cntB f p) (h : f p = false) : al = cntB f (p + 1) := by rw [cntB_no h, ← hr]
theorem cnt_add {f : Nat → Bool} {p al v : Nat} (hr : al = cntB f p) (h : v = bN (f p)) : al + v = cntB f (p + 1) := by
  have q : cntB f (p + 1) = cntB f p + bN (f p) := rfl
  omega
section RA
variable {he : Nat → Bool} {pl es ba se th pA eA oA bA sA : Nat → Nat} {pu : List Nat}
theorem relA.here {k : Nat} (h : relA he pl es pu ba se th pA eA oA bA sA) (hk : k < 6) (h2 : th k = 1) : he k = true := by
  cases q : he k with
  | true => rfl
  | false =>
    have h3 := h.1.1 k hk
    rw [q, h2] at h3
    exact absurd h3 (by decide)
theorem relA.gone {k : Nat} (h : relA he pl es pu ba se th pA eA oA bA sA) (hk : k < 6) (h2 : th k ≠ 1) : he k = false :=
  Bool.eq_false_iff.mpr fun q => h2 (by rw [h.1.1 k hk, q]; rfl)
theorem relA.is {k : Nat} (h : relA he pl es pu ba se th pA eA oA bA sA) (hk : k < 6) (h2 : he k = true) : th k = 1 := by rw [h.1.1 k hk, h2]; rfl
theorem relA.no {k : Nat} (h : relA he pl es pu ba se th pA eA oA bA sA) (hk : k < 6) (h2 : th k = 0) : he k = false := h.gone hk (by omega)
theorem relA.on {k : Nat} (h : relA he pl es pu ba se th pA eA oA bA sA) (hk : k < 6) (h2 : pu.contains k = true) : oA k = 1 := by rw [h.1.2.2.1 k hk, h2]; rfl
theorem relA.off {k : Nat} (h : relA he pl es pu ba se th pA eA oA bA sA) (hk : k < 6) (h2 : oA k ≠ 1) : pu.contains k = false :=
  Bool.eq_false_iff.mpr fun q => h2 (h.on hk q)
theorem relA.con {k : Nat} (h : relA he pl es pu ba se th pA eA oA bA sA) (hk : k < 6) (h2 : oA k = 1) : pu.contains k = true := by
  cases q : pu.contains k with
  | true => rfl
  | false =>
    have h3 := h.1.2.2.1 k hk
    rw [q, h2] at h3
    exact absurd h3 (by decide)
end RA
theorem elF_here {he : Nat → Bool} {pu : List Nat} {re x : Nat} (h : he x = true) (h2 : x ≠ re) : elF he pu re x = pu.contains x := by
  unfold elF
  rw [h, show (x == re) = false from by simpa using h2]
  rfl
theorem elF_gone {he : Nat → Bool} {pu : List Nat} {re x : Nat} (h : he x = false ∨ x = re) : elF he pu re x = false := by
  rcases h with h | h
  · unfold elF
    rw [h]
    rfl
  · unfold elF
    rw [show (x == re) = true from by simpa using h]
    simp
