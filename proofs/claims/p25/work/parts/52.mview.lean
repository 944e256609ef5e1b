-- the model: streams in the order of their beginnings, aims, rows of 36
def onR (on : Nat → Bool) (bg : Nat → Nat) (bn : Nat) (pu : List Nat) : Prop := goodL pu ∧ (∀ j, j < 6 → on j = pu.contains j) ∧ (∀ i j, i < j → j < pu.length → bg (pu.getD i 0) < bg (pu.getD j 0)) ∧ ∀ i, i < pu.length → bg (pu.getD i 0) < bn
def ordI (pu : List Nat) (bg : Nat → Nat) (n p k : Nat) : Prop := k ≤ pu.length ∧ (∀ j, j < k → bg (pu.getD j 0) < n ∨ (bg (pu.getD j 0) = n ∧ pu.getD j 0 < p)) ∧ ∀ j, k ≤ j → j < pu.length → n < bg (pu.getD j 0) ∨ (bg (pu.getD j 0) = n ∧ p ≤ pu.getD j 0)
def lkI (he : Nat → Bool) (pu : List Nat) (pr re : Nat) (vw : List Nat) (bg : Nat → Nat) (sv : List Nat) (n p : Nat) : Prop := ∃ k, ordI pu bg n p k ∧ sv = vI he pu pr re pu vw k
theorem onR_bg {on : Nat → Bool} {bg : Nat → Nat} {bn : Nat} {pu : List Nat} {p : Nat} (hR : onR on bg bn pu) (hp : p < 6) (h : on p = true) : bg p < bn := by
  rw [hR.2.1 p hp] at h
  obtain ⟨k, hk, e⟩ := mem_of_cont h
  have := hR.2.2.2 k hk
  rw [e] at this
  exact this
section LK
variable {he : Nat → Bool} {pu : List Nat} {pr re : Nat} {vw : List Nat} {on : Nat → Bool} {bg : Nat → Nat} {bn : Nat} {sv : List Nat} {n p : Nat}
theorem lkI_0 : lkI he pu pr re vw bg vw 0 0 := ⟨0, ⟨Nat.zero_le _, fun j hj => absurd hj (Nat.not_lt_zero _), fun j _ _ => by
  rcases Nat.eq_zero_or_pos (bg (pu.getD j 0)) with h | h
  · exact Or.inr ⟨h, Nat.zero_le _⟩
  · exact Or.inl h⟩, rfl⟩
theorem lkI_row (hR : onR on bg bn pu) (h : lkI he pu pr re vw bg sv n 6) : lkI he pu pr re vw bg sv (n + 1) 0 := by
  obtain ⟨k, ⟨h1, h2, h3⟩, e⟩ := h
  refine ⟨k, ⟨h1, fun j hj => Or.inl ?_, fun j hk hj => ?_⟩, e⟩
  · rcases h2 j hj with a | a <;> omega
  · have h6 : pu.getD j 0 < 6 := hR.1.2 _ (getD_in hj)
    rcases h3 j hk hj with a | a
    · rcases Nat.lt_or_eq_of_le a with b | b
      · exact Or.inl b
      · exact Or.inr ⟨b.symm, Nat.zero_le _⟩
    · omega
theorem lkI_no (hR : onR on bg bn pu) (hp : p < 6) (hc : on p = false ∨ bg p ≠ n) (h : lkI he pu pr re vw bg sv n p) : lkI he pu pr re vw bg sv n (p + 1) := by
  obtain ⟨k, ⟨h1, h2, h3⟩, e⟩ := h
  refine ⟨k, ⟨h1, fun j hj => ?_, fun j hk hj => ?_⟩, e⟩
  · rcases h2 j hj with a | a
    · exact Or.inl a
    · exact Or.inr ⟨a.1, by omega⟩
  · rcases h3 j hk hj with a | a
    · exact Or.inl a
    · refine Or.inr ⟨a.1, ?_⟩
      rcases Nat.lt_or_eq_of_le a.2 with b | b
      · exact b
      · exfalso
        rcases hc with c | c
        · rw [hR.2.1 p hp, b, cont_of hj] at c; cases c
        · exact c (by rw [b]; exact a.1)
theorem lkI_yes (hR : onR on bg bn pu) (hp : p < 6) (h1 : on p = true) (hb : bg p = n) (h : lkI he pu pr re vw bg sv n p) : lkI he pu pr re vw bg (showF he pu pr sv re (some p)) n (p + 1) := by
  obtain ⟨k, ⟨hk, h2, h3⟩, e⟩ := h
  rw [hR.2.1 p hp] at h1
  obtain ⟨j0, hj0, ej⟩ := mem_of_cont h1
  have a1 : k ≤ j0 := by
    refine Nat.le_of_not_lt fun q => ?_
    rcases h2 j0 q with a | a
    · rw [ej] at a; omega
    · rw [ej] at a; omega
  have a2 : j0 = k := by
    refine Nat.le_antisymm (Nat.le_of_not_lt fun q => ?_) a1
    have b := hR.2.2.1 k j0 q hj0
    rw [ej] at b
    rcases h3 k (Nat.le_refl _) (by omega) with a | a <;> omega
  subst a2
  refine ⟨j0 + 1, ⟨by omega, fun j hj => ?_, fun j hk2 hj => Or.inl ?_⟩, ?_⟩
  · by_cases e2 : j = j0
    · subst e2; rw [ej]; exact Or.inr ⟨hb, by omega⟩
    · rcases h2 j (by omega) with a | a
      · exact Or.inl a
      · exact Or.inr ⟨a.1, by omega⟩
  · have b := hR.2.2.1 j0 j (by omega) hj
    rw [ej] at b; omega
  · show _ = showF he pu pr (vI he pu pr re pu vw j0) re (some (pu.getD j0 0))
    rw [ej, ← e]
theorem lkI_end (hR : onR on bg bn pu) (h : lkI he pu pr re vw bg sv bn 0) : sv = vI he pu pr re pu vw pu.length := by
  obtain ⟨k, ⟨hk, h2, h3⟩, e⟩ := h
  rcases Nat.lt_or_eq_of_le hk with q | q
  · have b := hR.2.2.2 k q
    rcases h3 k (Nat.le_refl _) q with a | a <;> omega
  · rw [e, q]
end LK
-- aims
theorem sh1_out {ba : Nat → Nat} {L : List Nat} {y : sG} {o : Nat} : ∀ i, (∀ j, j < i → L.getD j 0 ≠ o) → (sh1 ba L y i).1 o = y.1 o
  | 0, _ => rfl
  | i + 1, h => by
    show (g1F ba _ _ (L.getD i 0)) o = _
    have e := sh1_out (ba := ba) (L := L) (y := y) (o := o) i (fun j hj => h j (by omega))
    unfold g1F
    split
    · rw [up_app, if_neg (fun q => h i (by omega) q.symm)]; exact e
    · exact e
theorem nodup_getD {L : List Nat} (h : L.Nodup) {i j : Nat} (hij : i < j) (hj : j < L.length) : L.getD i 0 ≠ L.getD j 0 := by
  rw [List.getD_eq_getElem?_getD, List.getD_eq_getElem?_getD, List.getElem?_eq_getElem (by omega), List.getElem?_eq_getElem hj]
  intro q
  exact (List.pairwise_iff_getElem.mp h) i j (by omega) hj hij q
theorem aim1_yes {ba : Nat → Nat} {L : List Nat} {tg tg2 : Nat → Nat} {rs0 rs i o : Nat} (hg : goodL L) (h : (tg2, rs) = sh1 ba L (zeroF tg 6, rs0) i) (hi : i < L.length) (ho : o = L.getD i 0) (hc : ba o ≤ rs) : (va_up tg2 o 1, rs - ba o) = sh1 ba L (zeroF tg 6, rs0) (i + 1) := by
  subst ho
  have h6 : L.getD i 0 < 6 := hg.2 _ (getD_in hi)
  have e : (sh1 ba L (zeroF tg 6, rs0) i).1 (L.getD i 0) = 0 := by
    rw [sh1_out i (fun j hj => nodup_getD hg.1 hj hi)]
    show (if L.getD i 0 < 6 then 0 else _) = 0
    rw [if_pos h6]
  show _ = st1 ba (sh1 ba L (zeroF tg 6, rs0) i) (L.getD i 0)
  rw [← h] at e ⊢
  have hb := b1_y (ba := ba) (gi := tg2) (rs := rs) e hc
  unfold st1
  rw [g1_y hb, r1_y hb]
theorem aim1_no {ba : Nat → Nat} {L : List Nat} {tg tg2 : Nat → Nat} {rs0 rs i o : Nat} (h : (tg2, rs) = sh1 ba L (zeroF tg 6, rs0) i) (ho : o = L.getD i 0) (hc : rs < ba o) : (tg2, rs) = sh1 ba L (zeroF tg 6, rs0) (i + 1) := by
  subst ho
  show _ = st1 ba (sh1 ba L (zeroF tg 6, rs0) i) (L.getD i 0)
  rw [← h]
  exact (st1_no (b1_n2 hc)).symm
def whI (se : Nat → Nat) (z : sG) (o : Nat) (y : sG) : Prop := ∃ k, k ≤ 2 ∧ y = itN se z o k ∧ (1 ≤ k → k + 1 ≤ y.1 o)
theorem whI_0 (se : Nat → Nat) (z : sG) (o : Nat) : whI se z o z := ⟨0, by omega, rfl, fun h => absurd h (by omega)⟩
theorem whI_s {se : Nat → Nat} {z : sG} {o : Nat} {tg : Nat → Nat} {rs : Nat} (h : whI se z o (tg, rs)) (h1 : 0 < tg o) (h2 : tg o < 3) (h3 : se o ≤ rs) : whI se z o (va_up tg o (tg o + 1), rs - se o) := by
  obtain ⟨k, hk, e, hb⟩ := h
  have hb2 := b2_y (se := se) (gi := tg) (rs := rs) (o := o) (by omega) h2 h3
  have hk2 : k ≤ 1 := by
    refine Nat.le_of_not_lt fun q => ?_
    have := hb (by omega)
    have h4 : k + 1 ≤ tg o := this
    omega
  refine ⟨k + 1, by omega, ?_, fun _ => ?_⟩
  · show _ = st2 se (itN se z o k) o
    rw [← e]
    unfold st2
    rw [g2_y hb2, r2_y hb2]
  · show k + 1 + 1 ≤ va_up tg o (tg o + 1) o
    rw [up_app, if_pos rfl]
    by_cases q : 1 ≤ k
    · have h4 : k + 1 ≤ tg o := hb q
      omega
    · omega
theorem whI_end {se : Nat → Nat} {z y : sG} {o : Nat} (h : whI se z o y) (hb : b2F se y.1 y.2 o = false) : y = st2 se (st2 se z o) o := by
  obtain ⟨k, hk, e, -⟩ := h
  have e2 := st2_no (se := se) hb
  match k, hk, e with
  | 0, _, e =>
    have e3 : y = z := e
    rw [← e3, e2, e2]
  | 1, _, e =>
    have e3 : y = st2 se z o := e
    rw [← e3, e2]
  | 2, _, e => exact e
theorem up_3 {tg : Nat → Nat} {o x : Nat} (h : ∀ k, k < 6 → tg k ≤ 3) (hx : x ≤ 3) : ∀ k, k < 6 → va_up tg o x k ≤ 3 := by
  intro k hk
  rw [up_app]
  split
  · exact hx
  · exact h k hk
-- rows of 36
def clrY (ly : Nat → Nat) (p i : Nat) : Nat → Nat := fun q => if q < 6 * i ∧ q % 6 = p then 0 else ly q
theorem clrY_0 (ly : Nat → Nat) (p : Nat) : ly = clrY ly p 0 := by funext q; simp [clrY]
theorem clrY_s (ly : Nat → Nat) {p i : Nat} (hp : p < 6) : va_up (clrY ly p i) (6 * i + p) 0 = clrY ly p (i + 1) := by
  funext q
  rw [up_app]
  unfold clrY
  by_cases h : q = 6 * i + p
  · rw [if_pos h, if_pos (by omega)]
  · rw [if_neg h]
    by_cases h2 : q < 6 * i ∧ q % 6 = p
    · rw [if_pos h2, if_pos (by omega)]
    · rw [if_neg h2, if_neg (by omega)]
theorem clrY_le {ly : Nat → Nat} {p i : Nat} (h : ∀ q, ly q ≤ 3) : ∀ q, clrY ly p i q ≤ 3 := by
  intro q; unfold clrY; split
  · omega
  · exact h q
def barF (he on : Nat → Bool) (r : Int32) : Nat := if isP he r then (if on r.toNatClampNeg then 0 else 2) else 1
theorem barF_n {he on : Nat → Bool} {r : Int32} (h : isP he r = false) : barF he on r = 1 := by simp [barF, h]
theorem barF_y {he on : Nat → Bool} {j : Nat} (h : isP he (nI j) = true) (hj : j < 6) : barF he on (nI j) = if on j then 0 else 2 := by
  unfold barF
  rw [if_pos h, nI_clamp (by omega)]
theorem aim_tg {he : Nat → Bool} {pu : List Nat} {pl : Nat → Nat} {pn : Nat → Option Nat} {sp : List Nat} {ba se es tg tg4 : Nat → Nat} {rs4 re : Nat} (hg : goodL (seenF he pu (pl re) re (pn re) sp))
    (h : (tg4, rs4) = sh2 se (seenF he pu (pl re) re (pn re) sp) (sh1 ba (seenF he pu (pl re) re (pn re) sp) (zeroF tg 6, es re) (seenF he pu (pl re) re (pn re) sp).length) (seenF he pu (pl re) re (pn re) sp).length) : ∀ j, j < 6 → tg4 j = tgF he pu pl pn sp ba se es re j := by
  intro j hj
  have h1 : (tg4, rs4) = shF ba se (seenF he pu (pl re) re (pn re) sp) (zeroF tg 6, es re) := h
  have h2 := (shF_ag hg.2 (zero_ag tg (es re)) (ba := ba) (se := se)).1 j hj
  rw [← h1] at h2
  exact h2
