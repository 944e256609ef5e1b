/-! p25: what holds between layers, targets and streams, behind every call -/
def dynP (he : Nat → Bool) (pu : List Nat) (ta la : Nat → Nat → Nat) (kc : Nat → Nat) (ak : Nat → Bool) : Prop :=
  invL he pu la ∧ invZ he ta ∧ invA pu ak ∧ ∀ p, p < 6 → pu.contains p = false → kc p = 0
section DP
variable {he mu : Nat → Bool} {lv pl es ba se : Nat → Nat} {pn : Nat → Option Nat} {pu sp : List Nat} {ho li ls ck : Nat} {ld lo : Option Nat} {ta la : Nat → Nat → Nat} {kc : Nat → Nat} {ak : Nat → Bool} {lk : Nat → Nat} {pe : Nat}
theorem dynP.to (h : dynP he pu ta la kc ak) (lo : Option Nat) (ls : Nat) : dynR he pu lo ls ta la kc ak ls (fun q => la (q / 6) (q % 6)) :=
  ⟨fun _ => rfl, fun r p _ hp _ => by
    show la ((6 * r + p) / 6) ((6 * r + p) % 6) = la r p
    rw [show (6 * r + p) / 6 = r by omega, show (6 * r + p) % 6 = p by omega], h.1, h.2.1, h.2.2.1, h.2.2.2⟩
theorem dynP.of {rn : Nat} {ly : Nat → Nat} (h : dynR he pu lo ls ta la kc ak rn ly) : dynP he pu ta la kc ak := ⟨h.2.2.1, h.2.2.2.1, h.2.2.2.2.1, h.2.2.2.2.2⟩
theorem dynP.join (hpe : pe < 6) (hh : he pe = false) (hin : ∀ j ∈ pu, he j = true) (h : dynP he pu ta la kc ak) : dynP (va_up he pe true) pu ta la kc ak := dynP.of (join_rel hpe hh hin (h.to none 0)).1
theorem dynP.stop (h : dynP he pu ta la kc ak) : dynP he (dropL pu pe) ta (clrF la pe 6) (va_up kc pe 0) (va_up ak pe false) := dynP.of (end_rel (h.to none 0))
theorem dynP.publish (h : dynP he pu ta la kc ak) : dynP he (dropL pu pe ++ [pe]) ta (clrF la pe 6) (va_up kc pe 0) (va_up ak pe false) := dynP.of (pub_rel (h.to none 0))
theorem dynP.leave (hpe : pe < 6) (h : dynP he pu ta la kc ak) : dynP (va_up he pe false) (dropL pu pe) (setF ta (fun _ => 0) pe 6) (setF (clrF la pe 6) (fun _ => 0) pe 6) (va_up kc pe 0) (va_up ak pe false) := dynP.of (leave_rel hpe (h.to none 0))
theorem dynP.pass {n : Nat} {ld9 lo9 : Option Nat} {ls9 : Nat} {sp9 : List Nat} {ta9 la9 : Nat → Nat → Nat} {kc9 : Nat → Nat} {ak9 : Nat → Bool} {lk9 : Nat → Nat} {ck9 nm9 : Nat} (h : dynP he pu ta la kc ak) (hc : itC he mu lv pl es pn pu ba se ho li (ld, lo, ls, sp, ta, la, kc, ak, lk, ck) n = ((ld9, lo9, ls9, sp9, ta9, la9, kc9, ak9, lk9, ck9), nm9)) : dynP he pu ta9 la9 kc9 ak9 := by
  obtain ⟨ldA, loA, lsA, spA, taA, laA, kcA, akA, lkA, ckA, nmA, rnA, lyA, z1, z2, z3⟩ := it_rel (mu := mu) (lv := lv) (pl := pl) (es := es) (pn := pn) (ba := ba) (se := se) (ho := ho) (li := li) (ld := ld) (sp := sp) (lk := lk) (ck := ck) (on := fun j => pu.contains j) (fun j _ => rfl) (h.to lo ls) n
  rw [hc] at z1
  simp only [Prod.mk.injEq] at z1
  obtain ⟨⟨e1, e2, e3, e4, e5, e6, e7, e8, e9, e10⟩, e11⟩ := z1
  subst e2 e3 e5 e6 e7 e8
  exact dynP.of z3
/-- the speaker is there -/
theorem ldF_he {fo : Option Nat} {ls9 ho : Nat} (hf : ∀ j, fo = some j → he j = true) (hl : ∀ j, ld = some j → he j = true) : ∀ j, ldF fo lo ld ls9 ho = some j → he j = true := by
  intro j hj
  cases fo with
  | none => exact hl j hj
  | some k =>
    by_cases c : lsF (some k) lo ls9 < ho
    · rw [ldF_lt c] at hj
      exact hl j hj
    · rw [ldF_ge (Nat.not_lt.mp c)] at hj
      exact hf j hj
theorem it_ld {y : sS} (h : ∀ j, y.1 = some j → he j = true) : ∀ n j, (itC he mu lv pl es pn pu ba se ho li y n).1.1 = some j → he j = true
  | 0 => h
  | n + 1 => by
    have ih := it_ld h n
    rcases e : itC he mu lv pl es pn pu ba se ho li y n with ⟨⟨ld1, lo1, ls1, sp1, ta1, la1, kc1, ak1, lk1, ck1⟩, nm1⟩
    rw [e] at ih
    rw [itC_s e]
    exact ldF_he (fun j hj => loudF_in hj) ih
theorem pass_ld {n : Nat} {ld9 lo9 : Option Nat} {ls9 : Nat} {sp9 : List Nat} {ta9 la9 : Nat → Nat → Nat} {kc9 : Nat → Nat} {ak9 : Nat → Bool} {lk9 : Nat → Nat} {ck9 nm9 : Nat} (h : ∀ j, ld = some j → he j = true) (hc : itC he mu lv pl es pn pu ba se ho li (ld, lo, ls, sp, ta, la, kc, ak, lk, ck) n = ((ld9, lo9, ls9, sp9, ta9, la9, kc9, ak9, lk9, ck9), nm9)) : ∀ j, ld9 = some j → he j = true := by
  have q := it_ld (mu := mu) (lv := lv) (pl := pl) (es := es) (pn := pn) (pu := pu) (ba := ba) (se := se) (ho := ho) (li := li) (y := (ld, lo, ls, sp, ta, la, kc, ak, lk, ck)) h n
  rw [hc] at q
  exact q
/-- behind a second no layer is above its target -/
theorem pass_low {n : Nat} (hn : 1 ≤ n) {ld9 lo9 : Option Nat} {ls9 : Nat} {sp9 : List Nat} {ta9 la9 : Nat → Nat → Nat} {kc9 : Nat → Nat} {ak9 : Nat → Bool} {lk9 : Nat → Nat} {ck9 nm9 : Nat} (hc : itC he mu lv pl es pn pu ba se ho li (ld, lo, ls, sp, ta, la, kc, ak, lk, ck) n = ((ld9, lo9, ls9, sp9, ta9, la9, kc9, ak9, lk9, ck9), nm9)) : ∀ r p, r < 6 → p < 6 → he r = true → la9 r p ≤ tgF he pu pl pn sp9 ba se es r p := by
  obtain ⟨k, rfl⟩ : ∃ k, n = k + 1 := ⟨n - 1, by omega⟩
  rcases e : itC he mu lv pl es pn pu ba se ho li (ld, lo, ls, sp, ta, la, kc, ak, lk, ck) k with ⟨⟨ld1, lo1, ls1, sp1, ta1, la1, kc1, ak1, lk1, ck1⟩, nm1⟩
  rw [itC_s e] at hc
  simp only [Prod.mk.injEq] at hc
  obtain ⟨⟨e1, e2, e3, e4, e5, e6, e7, e8, e9, e10⟩, e11⟩ := hc
  intro r p hr hp hh
  have q : (secM he mu lv pl es pn pu ba se ho li lo1 ls1 sp1 ta1 la1 kc1 ak1 lk1 ck1).2.2.2.1 r p ≤ tgI he pu pl pn (spF (loudF he mu lv) lo1 ls1 ho sp1) ba se es ta1 6 r p := mk_ta (fun a o ha ho => low_ta a o ha ho) 6 r p hr hp
  rw [e6, e4, tgI_at 6 r p hp, if_pos ⟨hr, hh⟩] at q
  exact q
end DP
/-! the law's rows of numbers, behind each call -/
section RJ
variable {he : Nat → Bool} {pl es ba se th pA eA oA bA sA : Nat → Nat} {pu : List Nat} {pe y z : Nat}
theorem up_1 {f : Nat → Nat} {p x B : Nat} (h : ∀ k, f k ≤ B) (hx : x ≤ B) : ∀ k, va_up f p x k ≤ B := up_le h hx
theorem relA.join (h : relA he pl es pu ba se th pA eA oA bA sA) (hc : pu.contains pe = false) : relA (va_up he pe true) (va_up pl pe 3) (va_up es pe 100) pu ba se (va_up th pe 1) (va_up pA pe 3) (va_up eA pe 100) (va_up oA pe 0) bA sA := by
  obtain ⟨⟨h1, h2, h3, h4⟩, b1, b2, b3, b4, b5, b6⟩ := h
  refine ⟨⟨fun k hk => ?_, fun k hk q => ?_, fun k hk => ?_, h4⟩, up_le b1 (by omega), up_le b2 (by omega), up_le b3 (by omega), up_le b4 (by omega), b5, b6⟩
  · rw [up_app, up_app]
    split
    · rfl
    · exact h1 k hk
  · rw [up_app] at q
    rw [up_app, up_app, up_app, up_app]
    by_cases e : k = pe
    · rw [if_pos e, if_pos e, if_pos e, if_pos e]
      exact ⟨rfl, rfl⟩
    · rw [if_neg e] at q
      rw [if_neg e, if_neg e, if_neg e, if_neg e]
      exact h2 k hk q
  · rw [up_app]
    split
    · next e => rw [e, hc]; rfl
    · exact h3 k hk
theorem cont_dropL {k : Nat} : (dropL pu pe).contains k = if k = pe then false else pu.contains k := by
  apply bool_eq
  rw [cont_drop]
  by_cases e : k = pe
  · rw [if_pos e]
    exact ⟨fun q => absurd e q.2, fun q => by cases q⟩
  · rw [if_neg e]
    exact ⟨fun q => q.1, fun q => ⟨q, e⟩⟩
theorem cont_putL {k : Nat} : (dropL pu pe ++ [pe]).contains k = if k = pe then true else pu.contains k := by
  apply bool_eq
  rw [cont_put]
  by_cases e : k = pe
  · rw [if_pos e]
    exact ⟨fun _ => rfl, fun _ => Or.inr e⟩
  · rw [if_neg e]
    exact ⟨fun q => q.elim id (fun z => absurd z e), fun q => Or.inl q⟩
theorem relA.stop (h : relA he pl es pu ba se th pA eA oA bA sA) : relA he pl es (dropL pu pe) ba se th pA eA (va_up oA pe 0) bA sA := by
  obtain ⟨⟨h1, h2, h3, h4⟩, b1, b2, b3, b4, b5, b6⟩ := h
  refine ⟨⟨h1, h2, fun k hk => ?_, fun k hk q => h4 k hk (cont_drop.mp q).1⟩, b1, b2, b3, up_le b4 (by omega), b5, b6⟩
  rw [up_app, cont_dropL]
  split
  · rfl
  · exact h3 k hk
theorem relA.leave (h : relA he pl es pu ba se th pA eA oA bA sA) : relA (va_up he pe false) pl es (dropL pu pe) ba se (va_up th pe 0) pA eA (va_up oA pe 0) bA sA := by
  obtain ⟨⟨h1, h2, h3, h4⟩, b1, b2, b3, b4, b5, b6⟩ := h.stop (pe := pe)
  refine ⟨⟨fun k hk => ?_, fun k hk q => ?_, h3, h4⟩, up_le b1 (by omega), b2, b3, b4, b5, b6⟩
  · rw [up_app, up_app]
    split
    · rfl
    · exact h1 k hk
  · rw [up_app] at q
    by_cases e : k = pe
    · rw [if_pos e] at q
      cases q
    · rw [if_neg e] at q
      exact h2 k hk q
theorem relA.publish (h : relA he pl es pu ba se th pA eA oA bA sA) (hy : y ≤ 100) (hz : z ≤ 100) : relA he pl es (dropL pu pe ++ [pe]) (va_up ba pe y) (va_up se pe z) th pA eA (va_up oA pe 1) (va_up bA pe y) (va_up sA pe z) := by
  obtain ⟨⟨h1, h2, h3, h4⟩, b1, b2, b3, b4, b5, b6⟩ := h
  refine ⟨⟨h1, h2, fun k hk => ?_, fun k hk q => ?_⟩, b1, b2, b3, up_le b4 (by omega), up_le b5 hy, up_le b6 hz⟩
  · rw [up_app, cont_putL]
    split
    · rfl
    · exact h3 k hk
  · rw [up_app, up_app, up_app, up_app]
    by_cases e : k = pe
    · rw [if_pos e, if_pos e, if_pos e, if_pos e]
      exact ⟨rfl, rfl⟩
    · rw [if_neg e, if_neg e, if_neg e, if_neg e]
      rw [cont_putL, if_neg e] at q
      exact h4 k hk q
theorem relA.setPlaces (h : relA he pl es pu ba se th pA eA oA bA sA) (hy : y ≤ 5) : relA he (va_up pl pe y) es pu ba se th (va_up pA pe y) eA oA bA sA := by
  obtain ⟨⟨h1, h2, h3, h4⟩, b1, b2, b3, b4, b5, b6⟩ := h
  refine ⟨⟨h1, fun k hk q => ?_, h3, h4⟩, b1, up_le b2 hy, b3, b4, b5, b6⟩
  rw [up_app, up_app]
  split
  · exact ⟨rfl, (h2 k hk q).2⟩
  · exact h2 k hk q
theorem relA.setEstimate (h : relA he pl es pu ba se th pA eA oA bA sA) (hy : y ≤ 2000) : relA he pl (va_up es pe y) pu ba se th pA (va_up eA pe y) oA bA sA := by
  obtain ⟨⟨h1, h2, h3, h4⟩, b1, b2, b3, b4, b5, b6⟩ := h
  refine ⟨⟨h1, fun k hk q => ?_, h3, h4⟩, b1, b2, up_le b3 hy, b4, b5, b6⟩
  rw [up_app, up_app]
  split
  · exact ⟨(h2 k hk q).1, rfl⟩
  · exact h2 k hk q
end RJ
theorem remO_he {he : Nat → Bool} {o : Option Nat} {pe : Nat} (h : ∀ j, o = some j → he j = true) : ∀ j, remO o pe = some j → va_up he pe false j = true := by
  intro j hj
  unfold remO at hj
  split at hj
  · cases hj
  · next e =>
    rw [up_app, if_neg (fun q => e (by rw [hj, q]))]
    exact h j hj
theorem up_he {he : Nat → Bool} {o : Option Nat} {pe : Nat} (h : ∀ j, o = some j → he j = true) : ∀ j, o = some j → va_up he pe true j = true := by
  intro j hj
  rw [up_app]
  split
  · rfl
  · exact h j hj
theorem free_of {he : Nat → Bool} (h : cntB he 6 < 6) : ∃ j, freeS he = some j := by
  obtain ⟨i, hi, h2⟩ := pk_least (fun k => k < 6 ∧ he k = false) (Classical.byContradiction fun q => by
    have e : cntB he 6 = cntB (fun _ => true) 6 := cntB_cg 6 (fun x hx => by
      cases z : he x with
      | true => rfl
      | false => exact absurd ⟨x, hx, z⟩ q)
    rw [e] at h
    exact absurd h (by decide))
  exact ⟨i, freeS_some hi.1 (fun j hj => by
    cases z : he j with
    | true => rfl
    | false => exact absurd ⟨by omega, z⟩ (h2 j hj)) hi.2⟩
