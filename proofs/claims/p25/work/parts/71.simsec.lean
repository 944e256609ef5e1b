theorem tgI_at {he : Nat → Bool} {pu : List Nat} {pl : Nat → Nat} {pn : Nat → Option Nat} {sp : List Nat} {ba se es : Nat → Nat} {ta : Nat → Nat → Nat} : ∀ i r p, p < 6 → tgI he pu pl pn sp ba se es ta i r p = if r < i ∧ he r = true then tgF he pu pl pn sp ba se es r p else ta r p
  | 0, r, p, _ => by rw [if_neg (by omega)]; rfl
  | i + 1, r, p, hp => by
    have ih := tgI_at (he := he) (pu := pu) (pl := pl) (pn := pn) (sp := sp) (ba := ba) (se := se) (es := es) (ta := ta) i r p hp
    by_cases c : he i = true
    · have e : tgI he pu pl pn sp ba se es ta (i + 1) = setF (tgI he pu pl pn sp ba se es ta i) (tgF he pu pl pn sp ba se es i) i 6 := by
        simp only [tgI, c, if_true]
      rw [e]
      unfold setF
      by_cases f : r = i
      · subst f
        rw [if_pos ⟨rfl, hp⟩, if_pos ⟨by omega, c⟩]
      · rw [if_neg (fun q => f q.1), ih]
        by_cases g : r < i ∧ he r = true
        · rw [if_pos g, if_pos ⟨by omega, g.2⟩]
        · rw [if_neg g, if_neg (fun q => g ⟨by omega, q.2⟩)]
    · have e : tgI he pu pl pn sp ba se es ta (i + 1) = tgI he pu pl pn sp ba se es ta i := by
        simp only [tgI, if_neg c]
      rw [e, ih]
      by_cases g : r < i ∧ he r = true
      · rw [if_pos g, if_pos ⟨by omega, g.2⟩]
      · rw [if_neg g, if_neg (fun q => g ⟨by
          by_cases f : r = i
          · rw [f] at q; exact absurd q.2 c
          · omega, q.2⟩)]
theorem tgI_T {he : Nat → Bool} {pu : List Nat} {pl : Nat → Nat} {pn : Nat → Option Nat} {sp : List Nat} {ba se es : Nat → Nat} {ta : Nat → Nat → Nat} (hz : invZ he ta) : invT he (tgF he pu pl pn sp ba se es) (tgI he pu pl pn sp ba se es ta 6) := by
  refine ⟨fun r p hr hp hh => ?_, fun r p hr hp hh => ?_⟩
  · rw [tgI_at 6 r p hp, if_pos ⟨hr, hh⟩]
  · rw [tgI_at 6 r p hp, if_neg (fun q => by rw [hh] at q; cases q.2)]
    exact hz r p hr hp hh
section DY
variable {fo lo ld : Option Nat} {ls rn ho : Nat} {sp : List Nat}
theorem ls_eq {j : Nat} (h : lo ≠ none → rn = ls) : lsF (some j) lo ls = lsF (some j) lo rn := by
  unfold lsF
  by_cases c : some j = lo
  · rw [if_pos c, if_pos c, h (by rw [← c]; simp)]
  · rw [if_neg c, if_neg c]
theorem ldF_eq (h : lo ≠ none → rn = ls) : ldF fo lo ld ls ho = ldF fo lo ld rn ho := by
  cases fo with
  | none => rfl
  | some j =>
    show (if ho ≤ lsF (some j) lo ls then some j else ld) = (if ho ≤ lsF (some j) lo rn then some j else ld)
    rw [ls_eq h]
theorem spF_eq (h : lo ≠ none → rn = ls) : spF fo lo ls ho sp = spF fo lo rn ho sp := by
  cases fo with
  | none => rfl
  | some j =>
    show (if ho ≤ lsF (some j) lo ls then j :: dropL sp j else sp) = (if ho ≤ lsF (some j) lo rn then j :: dropL sp j else sp)
    rw [ls_eq h]
theorem rn_eq (h : lo ≠ none → rn = ls) : fo ≠ none → rnF fo lo rn = lsF fo lo ls := by
  intro q
  cases fo with
  | none => exact absurd rfl q
  | some j => exact (ls_eq h).symm
end DY
/-- what changes in a second, in both -/
def dynR (he : Nat → Bool) (pu : List Nat) (lo : Option Nat) (ls : Nat) (ta la : Nat → Nat → Nat) (kc : Nat → Nat) (ak : Nat → Bool) (rn : Nat) (ly : Nat → Nat) : Prop :=
  (lo ≠ none → rn = ls) ∧ relL he la ly ∧ invL he pu la ∧ invZ he ta ∧ invA pu ak ∧ ∀ p, p < 6 → pu.contains p = false → kc p = 0
theorem sec_rel {he mu on : Nat → Bool} {lv pl es : Nat → Nat} {pn : Nat → Option Nat} {pu : List Nat} {ba se : Nat → Nat} {ho li : Nat} {ld lo : Option Nat} {ls rn : Nat} {sp : List Nat} {ta la : Nat → Nat → Nat} {ly : Nat → Nat} {kc : Nat → Nat} {ak : Nat → Bool} {lk : Nat → Nat} {ck : Nat} (hon : ∀ j, j < 6 → on j = pu.contains j) (h : dynR he pu lo ls ta la kc ak rn ly) :
    ∃ ld1 lo1 ls1 sp1 ta1 la1 kc1 ak1 lk1 nm1 rn1 ly1, secF he mu lv pl es pn pu ba se ho li (ld, lo, ls, sp, ta, la, kc, ak, lk, ck) = ((ld1, lo1, ls1, sp1, ta1, la1, kc1, ak1, lk1, ck + 1), nm1) ∧
      secYF he mu on lv pl es pn pu ba se ho li (ld, lo, rn, sp, ly, kc, ak, lk, ck) = ((ld1, lo1, rn1, sp1, ly1, kc1, ak1, lk1, ck + 1), nm1) ∧ dynR he pu lo1 ls1 ta1 la1 kc1 ak1 rn1 ly1 := by
  obtain ⟨hrn, hr, hi, hz, ha, hk⟩ := h
  have hT := tgI_T (he := he) (pu := pu) (pl := pl) (pn := pn) (sp := spF (loudF he mu lv) lo ls ho sp) (ba := ba) (se := se) (es := es) hz
  have hT0 : ∀ r p, pu.contains p = false → tgF he pu pl pn (spF (loudF he mu lv) lo ls ho sp) ba se es r p = 0 := fun r p hc => tgF_0 (Or.inr hc)
  have hTd : ∀ p, tgF he pu pl pn (spF (loudF he mu lv) lo ls ho sp) ba se es p p = 0 := fun p => tgF_0 (Or.inl rfl)
  obtain ⟨kc1, ak1, lk1, la1, nm1, ly1, e1, e2, h1, h2, h3, h4⟩ := mk_rel (li := li) (tm := ck + 1) (kc := kc) (lk := lk) (nm := 0) hon hT hTd (low_rel hT hr) (low_inv hi) (ak_inv hT hT0 hi.1 ha) 6 (Nat.le_refl _)
  have e3 : secM he mu lv pl es pn pu ba se ho li lo ls sp ta la kc ak lk ck = (kc1, ak1, lk1, la1, nm1) := e1
  have e4 : secY he mu on lv pl es pn pu ba se ho li lo rn sp ly kc ak lk ck = (kc1, ak1, lk1, ly1, nm1) := by
    unfold secY
    rw [← spF_eq hrn, ← ak_rel hT hr hi.1]
    exact e2
  refine ⟨ldF (loudF he mu lv) lo ld ls ho, loudF he mu lv, lsF (loudF he mu lv) lo ls, spF (loudF he mu lv) lo ls ho sp, tgI he pu pl pn (spF (loudF he mu lv) lo ls ho sp) ba se es ta 6, la1, kc1, ak1, lk1, nm1, rnF (loudF he mu lv) lo rn, ly1, ?_, ?_, ⟨rn_eq hrn, h1, h2, hT.2, h3, ?_⟩⟩
  · simp only [secF]
    rw [e3]
  · simp only [secYF]
    rw [e4, ldF_eq hrn, spF_eq hrn]
  · intro p hp hc
    rcases h4 p hc with q | q
    · rw [q]; exact hk p hp hc
    · omega
theorem it_rel {he mu on : Nat → Bool} {lv pl es : Nat → Nat} {pn : Nat → Option Nat} {pu : List Nat} {ba se : Nat → Nat} {ho li : Nat} {ld lo : Option Nat} {ls rn : Nat} {sp : List Nat} {ta la : Nat → Nat → Nat} {ly : Nat → Nat} {kc : Nat → Nat} {ak : Nat → Bool} {lk : Nat → Nat} {ck : Nat} (hon : ∀ j, j < 6 → on j = pu.contains j) (h : dynR he pu lo ls ta la kc ak rn ly) : ∀ n,
    ∃ ld1 lo1 ls1 sp1 ta1 la1 kc1 ak1 lk1 ck1 nm1 rn1 ly1, itC he mu lv pl es pn pu ba se ho li (ld, lo, ls, sp, ta, la, kc, ak, lk, ck) n = ((ld1, lo1, ls1, sp1, ta1, la1, kc1, ak1, lk1, ck1), nm1) ∧
      itY he mu on lv pl es pn pu ba se ho li (ld, lo, rn, sp, ly, kc, ak, lk, ck) n = ((ld1, lo1, rn1, sp1, ly1, kc1, ak1, lk1, ck1), nm1) ∧ dynR he pu lo1 ls1 ta1 la1 kc1 ak1 rn1 ly1
  | 0 => ⟨ld, lo, ls, sp, ta, la, kc, ak, lk, ck, 0, rn, ly, rfl, rfl, h⟩
  | n + 1 => by
    obtain ⟨ld1, lo1, ls1, sp1, ta1, la1, kc1, ak1, lk1, ck1, nm1, rn1, ly1, e1, e2, h1⟩ := it_rel (lv := lv) (pl := pl) (es := es) (pn := pn) (ba := ba) (se := se) (ho := ho) (li := li) (mu := mu) (ld := ld) (sp := sp) (lk := lk) (ck := ck) hon h n
    obtain ⟨ld2, lo2, ls2, sp2, ta2, la2, kc2, ak2, lk2, nm2, rn2, ly2, f1, f2, h2⟩ := sec_rel (mu := mu) (lv := lv) (pl := pl) (es := es) (pn := pn) (ba := ba) (se := se) (ho := ho) (li := li) (ld := ld1) (sp := sp1) (lk := lk1) (ck := ck1) hon h1
    refine ⟨ld2, lo2, ls2, sp2, ta2, la2, kc2, ak2, lk2, ck1 + 1, nm1 + nm2, rn2, ly2, ?_, ?_, h2⟩
    · simp only [itC]
      rw [e1]
      simp only
      rw [f1]
    · simp only [itY]
      rw [e2]
      simp only
      rw [f2]
