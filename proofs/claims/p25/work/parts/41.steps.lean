-- the steps and the rounds give the same
theorem fst_no {ba gi gi2 : Nat → Nat} {rs rs2 o : Nat} (h : b1F ba gi rs o = false) (h1 : gi o ≠ 0 → gi2 o ≠ 0) (h2 : rs2 ≤ rs) : b1F ba gi2 rs2 o = false := by
  simp only [b1F, decide_eq_false_iff_not, not_and] at h ⊢
  intro a b
  exact h (Classical.byContradiction fun c => h1 c a) (by omega)
theorem g1_nz {ba gi : Nat → Nat} {rs o x : Nat} (h : gi x ≠ 0) : g1F ba gi rs o x ≠ 0 := by
  unfold g1F
  split
  · rw [up_app]; split <;> omega
  · exact h
theorem g2_nz {se gi : Nat → Nat} {rs o x : Nat} (h : gi x ≠ 0) : g2F se gi rs o x ≠ 0 := by
  unfold g2F
  split
  · rw [up_app]; split <;> omega
  · exact h
theorem b1_after (ba gi : Nat → Nat) (rs o : Nat) : b1F ba (g1F ba gi rs o) (r1F ba gi rs o) o = false := by
  by_cases h : b1F ba gi rs o = true
  · refine b1_n1 ?_
    rw [g1_y h, up_app, if_pos rfl]; omega
  · have h := Bool.eq_false_iff.mpr h
    rw [g1_n h, r1_n h]; exact h
theorem st1_yes {ba se : Nat → Nat} {L : List Nat} {y : sG} {i : Nat} (hi : i < L.length) (hb : ∀ j, j < i → b1F ba y.1 y.2 (L.getD j 0) = false) (h : b1F ba y.1 y.2 (L.getD i 0) = true) : stp ba se L y = st1 ba y (L.getD i 0) := by
  have h1 : f1F ba y.1 y.2 L = some (L.getD i 0) := find_at L i hi hb h
  have h2 := one1_y h1
  unfold stp
  rw [if_pos (by rw [h1]; rfl), h2.1, h2.2]; rfl
theorem st1_no {ba : Nat → Nat} {y : sG} {o : Nat} (h : b1F ba y.1 y.2 o = false) : st1 ba y o = y := by
  unfold st1; rw [g1_n h, r1_n h]
theorem st2_no {se : Nat → Nat} {y : sG} {o : Nat} (h : b2F se y.1 y.2 o = false) : st2 se y o = y := by
  unfold st2; rw [g2_n h, r2_n h]
theorem st2_yes {ba se : Nat → Nat} {L : List Nat} {y : sG} {i : Nat} (hi : i < L.length) (h1 : ∀ j, j < L.length → b1F ba y.1 y.2 (L.getD j 0) = false) (hb : ∀ j, j < i → b2F se y.1 y.2 (L.getD j 0) = false) (h : b2F se y.1 y.2 (L.getD i 0) = true) : stp ba se L y = st2 se y (L.getD i 0) := by
  have h0 : f1F ba y.1 y.2 L = none := find_no L h1
  have h2 : f2F se y.1 y.2 L = some (L.getD i 0) := find_at L i hi hb h
  have h3 := one2_y h2
  unfold stp
  rw [if_neg (by rw [h0]; simp), h3.1, h3.2]; rfl
theorem fix_stp {ba se : Nat → Nat} {L : List Nat} {y : sG} (h : fixS ba se L y) : stp ba se L y = y := by
  have h2 := one2_n h.2
  unfold stp
  rw [if_neg (by rw [h.1]; simp), h2.1, h2.2]
theorem fix_it {ba se : Nat → Nat} {L : List Nat} {y : sG} {k : Nat} (h : fixS ba se L (itS ba se L y k)) : ∀ d, itS ba se L y (k + d) = itS ba se L y k
  | 0 => rfl
  | d + 1 => by
    show stp ba se L (itS ba se L y (k + d)) = _
    rw [fix_it h d, fix_stp h]
theorem sh1_it (ba se : Nat → Nat) (L : List Nat) (y : sG) : ∀ i, i ≤ L.length → (∃ k, k ≤ i ∧ sh1 ba L y i = itS ba se L y k) ∧ (∀ j, j < i → b1F ba (sh1 ba L y i).1 (sh1 ba L y i).2 (L.getD j 0) = false)
  | 0, _ => ⟨⟨0, Nat.le_refl _, rfl⟩, fun j hj => absurd hj (Nat.not_lt_zero _)⟩
  | i + 1, hi => by
    obtain ⟨⟨k, hk, h1⟩, h2⟩ := sh1_it ba se L y i (by omega)
    have hn : ∀ j, j < i + 1 → b1F ba (sh1 ba L y (i + 1)).1 (sh1 ba L y (i + 1)).2 (L.getD j 0) = false := by
      intro j hj
      by_cases hji : j = i
      · subst hji
        exact b1_after ba _ _ _
      · exact fst_no (h2 j (by omega)) (fun a => g1_nz a) (r1_le _ _ _ _)
    refine ⟨?_, hn⟩
    by_cases hc : b1F ba (sh1 ba L y i).1 (sh1 ba L y i).2 (L.getD i 0) = true
    · refine ⟨k + 1, by omega, ?_⟩
      show st1 ba (sh1 ba L y i) (L.getD i 0) = stp ba se L (itS ba se L y k)
      rw [← h1]
      exact (st1_yes (by omega) h2 hc).symm
    · refine ⟨k, by omega, ?_⟩
      show st1 ba (sh1 ba L y i) (L.getD i 0) = _
      rw [st1_no (Bool.eq_false_iff.mpr hc), h1]
theorem snd_no {se gi : Nat → Nat} {rs o x : Nat} (h : b2F se gi rs x = false) : b2F se (g2F se gi rs o) (r2F se gi rs o) x = false := by
  by_cases hx : x = o
  · subst hx; rw [g2_n h, r2_n h]; exact h
  · have hr := r2_le se gi rs o
    have hg : g2F se gi rs o x = gi x := by
      unfold g2F; split
      · rw [up_app, if_neg hx]
      · rfl
    simp only [b2F, decide_eq_false_iff_not, not_and] at h ⊢
    rw [hg]
    intro a b; have := h a b; omega
theorem g2_val {se gi : Nat → Nat} {rs o : Nat} (h : b2F se gi rs o = true) : g2F se gi rs o o = gi o + 1 ∧ gi o ≠ 0 := by
  rw [g2_y h, up_app, if_pos rfl]
  refine ⟨rfl, ?_⟩
  simp only [b2F, decide_eq_true_eq] at h; exact h.1
theorem sh2_it (ba se : Nat → Nat) (L : List Nat) (y : sG) (y0 : sG) (k0 : Nat) (hk0 : k0 ≤ L.length) (h0 : y0 = itS ba se L y k0) (hb0 : ∀ j, j < L.length → b1F ba y0.1 y0.2 (L.getD j 0) = false) : ∀ i, i ≤ L.length →
    (∃ k, k ≤ L.length + 2 * i ∧ sh2 se L y0 i = itS ba se L y k) ∧ (∀ j, j < L.length → b1F ba (sh2 se L y0 i).1 (sh2 se L y0 i).2 (L.getD j 0) = false) ∧ (∀ j, j < i → b2F se (sh2 se L y0 i).1 (sh2 se L y0 i).2 (L.getD j 0) = false)
  | 0, _ => ⟨⟨k0, by omega, h0⟩, hb0, fun j hj => absurd hj (Nat.not_lt_zero _)⟩
  | i + 1, hi => by
    obtain ⟨⟨k, hk, h1⟩, h2, h3⟩ := sh2_it ba se L y y0 k0 hk0 h0 hb0 i (by omega)
    have key : ∀ (z : sG) (k : Nat), z = itS ba se L y k → (∀ j, j < L.length → b1F ba z.1 z.2 (L.getD j 0) = false) → (∀ j, j < i → b2F se z.1 z.2 (L.getD j 0) = false) →
        (∃ k2, k2 ≤ k + 1 ∧ st2 se z (L.getD i 0) = itS ba se L y k2) ∧ (∀ j, j < L.length → b1F ba (st2 se z (L.getD i 0)).1 (st2 se z (L.getD i 0)).2 (L.getD j 0) = false) ∧ (∀ j, j < i → b2F se (st2 se z (L.getD i 0)).1 (st2 se z (L.getD i 0)).2 (L.getD j 0) = false) := by
      intro z k e1 e2 e3
      refine ⟨?_, fun j hj => fst_no (e2 j hj) (fun a => g2_nz a) (r2_le _ _ _ _), fun j hj => snd_no (e3 j hj)⟩
      by_cases hc : b2F se z.1 z.2 (L.getD i 0) = true
      · refine ⟨k + 1, by omega, ?_⟩
        show _ = stp ba se L (itS ba se L y k)
        rw [← e1]
        exact (st2_yes (by omega) e2 e3 hc).symm
      · exact ⟨k, by omega, by rw [st2_no (Bool.eq_false_iff.mpr hc), e1]⟩
    obtain ⟨⟨k2, hk2, f1⟩, f2, f3⟩ := key _ k h1 h2 h3
    obtain ⟨⟨k3, hk3, g1⟩, g2, g3⟩ := key _ k2 f1 f2 f3
    refine ⟨⟨k3, by omega, g1⟩, g2, ?_⟩
    intro j hj
    by_cases hji : j = i
    · subst hji
      show b2F se (st2 se (st2 se (sh2 se L y0 j) (L.getD j 0)) (L.getD j 0)).1 (st2 se (st2 se (sh2 se L y0 j) (L.getD j 0)) (L.getD j 0)).2 (L.getD j 0) = false
      generalize sh2 se L y0 j = z
      generalize L.getD j 0 = o
      by_cases hc : b2F se z.1 z.2 o = true
      · by_cases hd : b2F se (st2 se z o).1 (st2 se z o).2 o = true
        · refine b2_n2 ?_
          have a := g2_val hc
          have b := g2_val hd
          have b1 : (st2 se (st2 se z o) o).1 o = (st2 se z o).1 o + 1 := b.1
          have a1 : (st2 se z o).1 o = z.1 o + 1 := a.1
          have a2 := a.2
          omega
        · have hd := Bool.eq_false_iff.mpr hd
          rw [st2_no hd]; exact hd
      · have hc := Bool.eq_false_iff.mpr hc
        rw [st2_no hc, st2_no hc]; exact hc
    · exact g3 j (by omega)
theorem steps_shF {ba se : Nat → Nat} {L : List Nat} {y z : sG} (hL : goodL L) (h : ∃ kk, z = itS ba se L y kk ∧ (18 ≤ kk ∨ fixS ba se L z)) : z = shF ba se L y := by
  obtain ⟨kk, hz, hk⟩ := h
  obtain ⟨⟨k0, a0, a1⟩, a2⟩ := sh1_it ba se L y L.length (Nat.le_refl _)
  obtain ⟨⟨k, b0, b1⟩, b2, b3⟩ := sh2_it ba se L y _ k0 a0 a1 a2 L.length (Nat.le_refl _)
  have hlen := hL.len
  have hfix : fixS ba se L (itS ba se L y k) := by rw [← b1]; exact ⟨find_no L b2, find_no L b3⟩
  have he : itS ba se L y k = shF ba se L y := b1.symm
  by_cases hle : k ≤ kk
  · obtain ⟨d, rfl⟩ := Nat.exists_eq_add_of_le hle
    rw [hz, fix_it hfix d, he]
  · rcases hk with hk | hk
    · omega
    · obtain ⟨d, hd⟩ := Nat.exists_eq_add_of_le (Nat.le_of_lt (Nat.lt_of_not_le hle))
      rw [hz] at hk
      rw [← he, hd, fix_it hk d, hz]
theorem steps_tg {he : Nat → Bool} {pu : List Nat} {pl : Nat → Nat} {pn : Nat → Option Nat} {sp : List Nat} {ba se es gi gi8 : Nat → Nat} {rs8 pe : Nat} (hg : goodL (seenF he pu (pl pe) pe (pn pe) sp))
    (h : ∃ kk, (gi8, rs8) = itS ba se (seenF he pu (pl pe) pe (pn pe) sp) (zeroF gi 6, es pe) kk ∧ (18 ≤ kk ∨ fixS ba se (seenF he pu (pl pe) pe (pn pe) sp) (gi8, rs8))) : ∀ j, j < 6 → gi8 j = tgF he pu pl pn sp ba se es pe j := by
  intro j hj
  have h1 := steps_shF hg h
  have h2 := (shF_ag hg.2 (zero_ag gi (es pe)) (ba := ba) (se := se)).1 j hj
  rw [← h1] at h2
  exact h2
