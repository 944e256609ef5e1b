/-! class and model: what is held between them, and that a second keeps it -/
def relL (he : Nat → Bool) (la : Nat → Nat → Nat) (ly : Nat → Nat) : Prop := ∀ r p, r < 6 → p < 6 → he r = true → ly (6 * r + p) = la r p
def invZ (he : Nat → Bool) (la : Nat → Nat → Nat) : Prop := ∀ r p, r < 6 → p < 6 → he r = false → la r p = 0
def invL (he : Nat → Bool) (pu : List Nat) (la : Nat → Nat → Nat) : Prop := invZ he la ∧ (∀ p, p < 6 → la p p = 0) ∧ ∀ r p, r < 6 → p < 6 → pu.contains p = false → la r p = 0
def invA (pu : List Nat) (ak : Nat → Bool) : Prop := ∀ p, p < 6 → ak p = true → pu.contains p = true
def invT (he : Nat → Bool) (T TA : Nat → Nat → Nat) : Prop := (∀ r p, r < 6 → p < 6 → he r = true → TA r p = T r p) ∧ invZ he TA
-- who is not seen has no target
theorem showF_sub {he : Nat → Bool} {pu : List Nat} {pr : Nat} {vw : List Nat} {re : Nat} {ot : Option Nat} (h : ∀ x ∈ vw, x ≠ re ∧ pu.contains x = true) : ∀ x ∈ showF he pu pr vw re ot, x ≠ re ∧ pu.contains x = true := by
  cases ot with
  | none => exact h
  | some j =>
    simp only [showF]
    split
    · next c =>
      simp only [Bool.and_eq_true, Bool.not_eq_true', beq_eq_false_iff_ne] at c
      intro x hx
      rcases List.mem_append.mp hx with q | q
      · exact h x q
      · rw [List.mem_singleton.mp q]; exact ⟨c.2.1, c.2.2.1⟩
    · exact h
theorem vI_sub {he : Nat → Bool} {pu : List Nat} {pr re : Nat} {C vw : List Nat} (h : ∀ x ∈ vw, x ≠ re ∧ pu.contains x = true) : ∀ i, ∀ x ∈ vI he pu pr re C vw i, x ≠ re ∧ pu.contains x = true
  | 0 => h
  | i + 1 => showF_sub (vI_sub h i)
theorem seenF_sub {he : Nat → Bool} {pu : List Nat} {pr re : Nat} {po : Option Nat} {sp : List Nat} : ∀ x ∈ seenF he pu pr re po sp, x ≠ re ∧ pu.contains x = true :=
  vI_sub (vI_sub (showF_sub (fun x hx => absurd hx (by simp))) _) _
theorem st2_out {se : Nat → Nat} {y : sG} {a o : Nat} (h : a ≠ o) : (st2 se y a).1 o = y.1 o := by
  show (g2F se y.1 y.2 a) o = _
  unfold g2F
  split
  · rw [up_app, if_neg (fun q => h q.symm)]
  · rfl
theorem sh2_out {se : Nat → Nat} {L : List Nat} {y : sG} {o : Nat} : ∀ i, (∀ j, j < i → L.getD j 0 ≠ o) → (sh2 se L y i).1 o = y.1 o
  | 0, _ => rfl
  | i + 1, h => by
    show (st2 se (st2 se _ (L.getD i 0)) (L.getD i 0)).1 o = _
    rw [st2_out (h i (by omega)), st2_out (h i (by omega))]
    exact sh2_out i (fun j hj => h j (by omega))
theorem tgF_0 {he : Nat → Bool} {pu : List Nat} {pl : Nat → Nat} {pn : Nat → Option Nat} {sp : List Nat} {ba se es : Nat → Nat} {re o : Nat} (h : o = re ∨ pu.contains o = false) : tgF he pu pl pn sp ba se es re o = 0 := by
  have hn : ∀ j, j < (seenF he pu (pl re) re (pn re) sp).length → (seenF he pu (pl re) re (pn re) sp).getD j 0 ≠ o := by
    intro j hj q
    have h1 := seenF_sub _ (getD_in hj)
    rw [q] at h1
    rcases h with h | h
    · exact h1.1 h
    · rw [h] at h1; cases h1.2
  unfold tgF shF
  rw [sh2_out _ hn, sh1_out _ hn]
-- one second
section SS
variable {he : Nat → Bool} {pu : List Nat} {T TA la : Nat → Nat → Nat} {ly : Nat → Nat} {ak : Nat → Bool}
theorem low_rel (hT : invT he T TA) (h : relL he la ly) : relL he (lowF la TA 6 0) (lowY he T ly 6 0) := by
  intro r p hr hp hh
  have e1 : (6 * r + p) / 6 = r := by omega
  have e2 : (6 * r + p) % 6 = p := by omega
  unfold lowF lowY
  rw [if_pos ⟨by rw [e1]; exact hh, by omega⟩, if_pos (by omega), e1, e2, h r p hr hp hh, hT.1 r p hr hp hh]
theorem low_inv (h : invL he pu la) : invL he pu (lowF la TA 6 0) := by
  have h1 : ∀ r p, la r p = 0 → lowF la TA 6 0 r p = 0 := by
    intro r p q
    unfold lowF
    split
    · rw [q]; exact Nat.zero_min _
    · exact q
  exact ⟨fun r p hr hp hh => h1 _ _ (h.1 r p hr hp hh), fun p hp => h1 _ _ (h.2.1 p hp), fun r p hr hp hh => h1 _ _ (h.2.2 r p hr hp hh)⟩
theorem want_iff {la ta : Nat → Nat → Nat} {pe : Nat} : ∀ i, wantI la ta pe i = true ↔ ∃ r, r < i ∧ la r pe < ta r pe
  | 0 => ⟨fun h => by simp [wantI] at h, fun ⟨r, hr, _⟩ => absurd hr (Nat.not_lt_zero _)⟩
  | i + 1 => by
    have ih := want_iff (la := la) (ta := ta) (pe := pe) i
    simp only [wantI, Bool.or_eq_true, decide_eq_true_eq]
    constructor
    · intro h
      rcases h with h | h
      · obtain ⟨r, hr, q⟩ := ih.mp (by first | exact h | exact h)
        exact ⟨r, by omega, q⟩
      · exact ⟨i, by omega, h⟩
    · intro ⟨r, hr, q⟩
      by_cases e : r = i
      · subst e; exact Or.inr q
      · exact Or.inl (ih.mpr ⟨r, by omega, q⟩)
theorem akR_iff {p : Nat} (hp : p < 6) : ∀ i, akR he T ly p i = true ↔ ∃ r, r < i ∧ he r = true ∧ ly (6 * r + p) < T r p
  | 0 => ⟨fun h => by simp [akR] at h, fun ⟨r, hr, _⟩ => absurd hr (Nat.not_lt_zero _)⟩
  | i + 1 => by
    have ih := akR_iff hp i
    simp only [akR, Bool.or_eq_true, Bool.and_eq_true, decide_eq_true_eq]
    constructor
    · intro h
      rcases h with h | h
      · obtain ⟨r, hr, q⟩ := ih.mp h
        exact ⟨r, by omega, q⟩
      · exact ⟨i, by omega, h.2⟩
    · intro ⟨r, hr, q⟩
      by_cases e : r = i
      · subst e; exact Or.inr ⟨hp, q⟩
      · exact Or.inl (ih.mpr ⟨r, by omega, q⟩)
theorem bool_eq {a b : Bool} (h : a = true ↔ b = true) : a = b := by
  cases a <;> cases b <;> simp_all
theorem ak_rel (hT : invT he T TA) (h : relL he la ly) (hz : invZ he la) : askI (lowF la TA 6 0) TA ak 6 = akY he T ly ak 6 0 := by
  funext x
  refine bool_eq ?_
  simp only [askI, akY, Bool.or_eq_true, Bool.and_eq_true, decide_eq_true_eq]
  constructor
  · intro q
    rcases q with q | ⟨hx, q⟩
    · exact Or.inl q
    · obtain ⟨r, hr, w⟩ := (want_iff 6).mp q
      have e : lowF la TA 6 0 r x = min (la r x) (TA r x) := by unfold lowF; rw [if_pos (by omega)]
      rw [e] at w
      refine Or.inr (Or.inl ((akR_iff hx 6).mpr ⟨r, hr, ?_⟩))
      cases hh : he r with
      | false =>
        have a := hz r x hr hx hh
        have b := hT.2 r x hr hx hh
        rw [a, b] at w; exact absurd w (by simp)
      | true =>
        refine ⟨rfl, ?_⟩
        rw [h r x hr hx hh, ← hT.1 r x hr hx hh]
        omega
  · intro q
    rcases q with q | q | q
    · exact Or.inl q
    · by_cases hx : x < 6
      · obtain ⟨r, hr, hh, w⟩ := (akR_iff hx 6).mp q
        refine Or.inr ⟨hx, (want_iff 6).mpr ⟨r, hr, ?_⟩⟩
        have e : lowF la TA 6 0 r x = min (la r x) (TA r x) := by unfold lowF; rw [if_pos (by omega)]
        rw [e]
        rw [h r x hr hx hh, ← hT.1 r x hr hx hh] at w
        omega
      · exfalso
        have e : ∀ i, akR he T ly x i = false := by
          intro i
          induction i with
          | zero => rfl
          | succ i ih => simp [akR, ih, hx]
        rw [e] at q; cases q
    · exact absurd q.1 (Nat.not_lt_zero _)
/-- who is asked for is published -/
theorem ak_inv (hT : invT he T TA) (hT0 : ∀ r p, pu.contains p = false → T r p = 0) (hz : invZ he la) (ha : invA pu ak) : invA pu (askI (lowF la TA 6 0) TA ak 6) := by
  intro p hp q
  simp only [askI, Bool.or_eq_true, Bool.and_eq_true, decide_eq_true_eq] at q
  rcases q with q | ⟨hx, q⟩
  · exact ha p hp q
  · obtain ⟨r, hr, w⟩ := (want_iff 6).mp q
    cases hc : pu.contains p with
    | true => rfl
    | false =>
      exfalso
      cases hh : he r with
      | false => rw [hT.2 r p hr hp hh] at w; omega
      | true => rw [hT.1 r p hr hp hh, hT0 r p hc] at w; omega
theorem sw_rel {i : Nat} (hi : i < 6) (hT : invT he T TA) (hTd : ∀ p, T p p = 0) (hd : ∀ p, p < 6 → la p p = 0) (h : relL he la ly) : relL he (swF la TA i 6) (liftY he T ly i 6) := by
  intro r p hr hp hh
  have e1 : (6 * r + p) / 6 = r := by omega
  have e2 : (6 * r + p) % 6 = p := by omega
  by_cases e : p = i
  · subst e
    have s1 : swF la TA p 6 r p = TA r p := by unfold swF; rw [if_pos ⟨hr, rfl⟩]
    rw [s1, hT.1 r p hr hp hh]
    by_cases f : r = p
    · subst f
      have s2 : liftY he T ly r 6 (6 * r + r) = ly (6 * r + r) := by unfold liftY; rw [if_neg (fun q => q.2.2.2 e1)]
      rw [s2, h r r hr hr hh, hd r hr, hTd]
    · have s2 : liftY he T ly p 6 (6 * r + p) = T r p := by
        unfold liftY
        rw [if_pos ⟨e2, by rw [e1]; exact hr, by rw [e1]; exact hh, by rw [e1]; exact f⟩, e1]
      exact s2
  · have s1 : swF la TA i 6 r p = la r p := by unfold swF; rw [if_neg (fun q => e q.2)]
    have s2 : liftY he T ly i 6 (6 * r + p) = ly (6 * r + p) := by unfold liftY; rw [if_neg (fun q => e (e2.symm.trans q.1))]
    rw [s1, s2, h r p hr hp hh]
theorem sw_inv {i : Nat} (hi : i < 6) (hic : pu.contains i = true) (hT : invT he T TA) (hTd : ∀ p, T p p = 0) (h : invL he pu la) : invL he pu (swF la TA i 6) := by
  refine ⟨fun r p hr hp hh => ?_, fun p hp => ?_, fun r p hr hp hc => ?_⟩
  · unfold swF
    by_cases e : p = i
    · rw [if_pos ⟨hr, e⟩]; subst e; exact hT.2 r p hr hp hh
    · rw [if_neg (fun q => e q.2)]; exact h.1 r p hr hp hh
  · unfold swF
    by_cases e : p = i
    · rw [if_pos ⟨hp, e⟩]; subst e
      cases hh : he p with
      | false => exact hT.2 p p hp hp hh
      | true => rw [hT.1 p p hp hp hh, hTd]
    · rw [if_neg (fun q => e q.2)]; exact h.2.1 p hp
  · unfold swF
    by_cases e : p = i
    · subst e; rw [hic] at hc; cases hc
    · rw [if_neg (fun q => e q.2)]; exact h.2.2 r p hr hp hc
/-- key pictures: class and model make the same -/
theorem mk_rel {on : Nat → Bool} {li tm : Nat} {kc lk : Nat → Nat} {nm : Nat} (hon : ∀ j, j < 6 → on j = pu.contains j) (hT : invT he T TA) (hTd : ∀ p, T p p = 0) (hr : relL he la ly) (hi : invL he pu la) (ha : invA pu ak) : ∀ i, i ≤ 6 →
    ∃ kc1 ak1 lk1 la1 nm1 ly1, mkI TA li tm (kc, ak, lk, la, nm) i = (kc1, ak1, lk1, la1, nm1) ∧ mkY he T on li tm (kc, ak, lk, ly, nm) i = (kc1, ak1, lk1, ly1, nm1) ∧ relL he la1 ly1 ∧ invL he pu la1 ∧ invA pu ak1 ∧ (∀ p, pu.contains p = false → kc1 p = kc p ∨ 6 ≤ p)
  | 0, _ => ⟨kc, ak, lk, la, nm, ly, rfl, rfl, hr, hi, ha, fun p _ => Or.inl rfl⟩
  | i + 1, h6 => by
    obtain ⟨kc1, ak1, lk1, la1, nm1, ly1, e1, e2, h1, h2, h3, h4⟩ := mk_rel hon hT hTd hr hi ha i (by omega)
    cases hc : canF ak1 kc1 lk1 li i tm with
    | false =>
      exact ⟨kc1, ak1, lk1, la1, nm1, ly1, mkI_no e1 hc, mkY_no e2 (by rw [hc]; cases on i <;> rfl), h1, h2, h3, h4⟩
    | true =>
      have hak : ak1 i = true := by
        unfold canF at hc
        simp only [Bool.and_eq_true] at hc
        exact hc.1
      have hpi := h3 i (by omega) hak
      have honi : on i = true := by rw [hon i (by omega)]; exact hpi
      refine ⟨_, _, _, _, _, _, mkI_yes e1 hc, mkY_yes e2 (by rw [hc, honi]; rfl), sw_rel (by omega) hT hTd h2.2.1 h1, sw_inv (by omega) hpi hT hTd h2, ?_, ?_⟩
      · intro p hp q
        rw [up_app] at q
        by_cases e : p = i
        · rw [if_pos e] at q; cases q
        · rw [if_neg e] at q; exact h3 p hp q
      · intro p hp
        rw [up_app]
        by_cases e : p = i
        · rw [e, hpi] at hp; cases hp
        · rw [if_neg e]; exact h4 p hp
end SS
