theorem loudI_29 (he mu : Nat → Bool) (lv : Nat → Nat) : ∀ k, 29 ≤ (loudI he mu lv k).2
  | 0 => Nat.le_refl _
  | k + 1 => by
    have h := loudI_29 he mu lv k
    simp only [loudI]
    split
    · next c =>
      simp only [Bool.and_eq_true, decide_eq_true_eq] at c
      show 29 ≤ lv k
      omega
    · exact h
theorem loudI_gr (he mu : Nat → Bool) (lv : Nat → Nat) : ∀ k, (loudI he mu lv k).2 = ((loudI he mu lv k).1.map lv).getD 29
  | 0 => rfl
  | k + 1 => by
    have h := loudI_gr he mu lv k
    simp only [loudI]
    split
    · rfl
    · exact h
section LD
variable {he mu : Nat → Bool} {lv : Nat → Nat} {i j : Nat} {fo : Option Nat}
theorem ldI_no (h : (he i && !mu i && decide (30 ≤ lv i)) = false) (hf : (loudI he mu lv i).1 = fo) : (loudI he mu lv (i + 1)).1 = fo := by
  by_cases a : he i = true
  · by_cases b : mu i = true
    · rw [loudI_no2 b]; exact hf
    · have hl : lv i < 30 := by
        rw [a, Bool.eq_false_iff.mpr b] at h
        simp at h
        omega
      rw [loudI_no3 (by have := loudI_29 he mu lv i; omega)]; exact hf
  · rw [loudI_no1 (Bool.eq_false_iff.mpr a)]; exact hf
theorem ldI_parts (h : (he i && !mu i && decide (30 ≤ lv i)) = true) : he i = true ∧ mu i = false ∧ 30 ≤ lv i := by
  simp only [Bool.and_eq_true, decide_eq_true_eq, Bool.not_eq_true'] at h
  exact ⟨h.1.1, h.1.2, h.2⟩
theorem ldI_y0 (h : (he i && !mu i && decide (30 ≤ lv i)) = true) (hf : (loudI he mu lv i).1 = none) : (loudI he mu lv (i + 1)).1 = some i := by
  obtain ⟨a, b, c⟩ := ldI_parts h
  have g := loudI_gr he mu lv i
  rw [hf] at g
  have g2 : (loudI he mu lv i).2 = 29 := g
  rw [loudI_yes a b (by omega)]
theorem ldI_y1 (h : (he i && !mu i && decide (30 ≤ lv i)) = true) (hf : (loudI he mu lv i).1 = some j) (hl : lv j < lv i) : (loudI he mu lv (i + 1)).1 = some i := by
  obtain ⟨a, b, c⟩ := ldI_parts h
  have g := loudI_gr he mu lv i
  rw [hf] at g
  have g2 : (loudI he mu lv i).2 = lv j := g
  rw [loudI_yes a b (by omega)]
theorem ldI_y2 (hf : (loudI he mu lv i).1 = some j) (hl : lv i ≤ lv j) : (loudI he mu lv (i + 1)).1 = some j := by
  have g := loudI_gr he mu lv i
  rw [hf] at g
  have g2 : (loudI he mu lv i).2 = lv j := g
  rw [loudI_no3 (by omega)]; exact hf
def rnF (fo lo : Option Nat) (rn : Nat) : Nat := match fo with
  | none => 0
  | some j => lsF (some j) lo rn
theorem rnF_y {lo : Option Nat} {rn : Nat} (h : fo ≠ none) (h2 : fo = lo) : rn + 1 = rnF fo lo rn := by
  cases fo with
  | none => exact absurd rfl h
  | some j => show _ = lsF (some j) lo rn; unfold lsF; rw [if_pos h2]
theorem rnF_n {lo : Option Nat} {rn : Nat} (h : fo ≠ none) (h2 : fo ≠ lo) : 1 = rnF fo lo rn := by
  cases fo with
  | none => exact absurd rfl h
  | some j => show _ = lsF (some j) lo rn; unfold lsF; rw [if_neg h2]
theorem rnF_le (fo lo : Option Nat) (rn : Nat) : rnF fo lo rn ≤ rn + 1 := by
  unfold rnF
  split
  · omega
  · unfold lsF; split <;> omega
end LD
-- the 36 layers and what is wanted
def lowY (he : Nat → Bool) (T : Nat → Nat → Nat) (ly : Nat → Nat) (i j : Nat) : Nat → Nat := fun q => if he (q / 6) = true ∧ (q / 6 < i ∨ (q / 6 = i ∧ q % 6 < j)) then min (ly q) (T (q / 6) (q % 6)) else ly q
def akR (he : Nat → Bool) (T : Nat → Nat → Nat) (ly : Nat → Nat) (p : Nat) : Nat → Bool
  | 0 => false
  | i + 1 => akR he T ly p i || (decide (p < 6) && (he i && decide (ly (6 * i + p) < T i p)))
def akY (he : Nat → Bool) (T : Nat → Nat → Nat) (ly : Nat → Nat) (ak : Nat → Bool) (i j : Nat) : Nat → Bool := fun p => ak p || (akR he T ly p i || (decide (p < j) && (he i && decide (ly (6 * i + p) < T i p))))
section LY
variable {he : Nat → Bool} {T : Nat → Nat → Nat} {ly : Nat → Nat} {ak : Nat → Bool} {i j : Nat}
theorem lowY_0 : ly = lowY he T ly 0 0 := by
  funext q; unfold lowY; rw [if_neg (by omega)]
theorem akY_0 : ak = akY he T ly ak 0 0 := by
  funext p; simp [akY, akR]
theorem lowY_row : lowY he T ly i 6 = lowY he T ly (i + 1) 0 := by
  funext q; unfold lowY
  have h6 : q % 6 < 6 := Nat.mod_lt _ (by decide)
  by_cases h : he (q / 6) = true ∧ (q / 6 < i ∨ (q / 6 = i ∧ q % 6 < 6))
  · rw [if_pos h, if_pos ⟨h.1, by omega⟩]
  · rw [if_neg h, if_neg (fun a => h ⟨a.1, by omega⟩)]
theorem akY_row : akY he T ly ak i 6 = akY he T ly ak (i + 1) 0 := by
  funext p; simp [akY, akR]
theorem lowY_skip (h : he i = false) : lowY he T ly i 0 = lowY he T ly (i + 1) 0 := by
  funext q; unfold lowY
  by_cases c : he (q / 6) = true ∧ (q / 6 < i ∨ (q / 6 = i ∧ q % 6 < 0))
  · rw [if_pos c, if_pos ⟨c.1, by omega⟩]
  · rw [if_neg c, if_neg (fun a => by
      rcases a.2 with b | b
      · by_cases e : q / 6 = i
        · rw [e, h] at a; exact absurd a.1 (by simp)
        · exact c ⟨a.1, by omega⟩
      · omega)]
theorem akY_skip (h : he i = false) : akY he T ly ak i 0 = akY he T ly ak (i + 1) 0 := by
  funext p; simp [akY, akR, h]
theorem lowY_at (hj : j < 6) : lowY he T ly i j (6 * i + j) = ly (6 * i + j) := by
  unfold lowY; rw [if_neg (by omega)]
theorem lowY_s (h : he i = true) (hj : j < 6) {x : Nat} (hx : x = min (ly (6 * i + j)) (T i j)) : va_up (lowY he T ly i j) (6 * i + j) x = lowY he T ly i (j + 1) := by
  funext q
  rw [up_app]
  by_cases e : q = 6 * i + j
  · rw [if_pos e]
    subst e
    have e1 : (6 * i + j) / 6 = i := by omega
    have e2 : (6 * i + j) % 6 = j := by omega
    unfold lowY
    rw [if_pos ⟨by rw [e1]; exact h, by omega⟩, e1, e2, hx]
  · rw [if_neg e]
    unfold lowY
    by_cases c : he (q / 6) = true ∧ (q / 6 < i ∨ (q / 6 = i ∧ q % 6 < j))
    · rw [if_pos c, if_pos ⟨c.1, by omega⟩]
    · rw [if_neg c, if_neg (fun a => c ⟨a.1, by omega⟩)]
theorem akY_s (h : he i = true) {b : Bool} (hb : b = (akY he T ly ak i j j || decide (ly (6 * i + j) < T i j))) : va_up (akY he T ly ak i j) j b = akY he T ly ak i (j + 1) := by
  funext p
  rw [up_app]
  by_cases e : p = j
  · rw [if_pos e, hb]
    subst e
    simp [akY, h, Bool.or_assoc]
  · rw [if_neg e]
    have e1 : decide (p < j + 1) = decide (p < j) := by
      by_cases c : p < j
      · rw [decide_eq_true c, decide_eq_true (by omega)]
      · rw [decide_eq_false c, decide_eq_false (by omega)]
    simp only [akY, e1]
def liftY (he : Nat → Bool) (T : Nat → Nat → Nat) (ly : Nat → Nat) (p i : Nat) : Nat → Nat := fun q => if q % 6 = p ∧ q / 6 < i ∧ he (q / 6) = true ∧ q / 6 ≠ p then T (q / 6) p else ly q
theorem liftY_0 (p : Nat) : ly = liftY he T ly p 0 := by
  funext q; unfold liftY; rw [if_neg (by omega)]
theorem liftY_no {p : Nat} (h : he i = false ∨ i = p) : liftY he T ly p i = liftY he T ly p (i + 1) := by
  funext q; unfold liftY
  by_cases c : q % 6 = p ∧ q / 6 < i ∧ he (q / 6) = true ∧ q / 6 ≠ p
  · rw [if_pos c, if_pos ⟨c.1, by omega, c.2.2⟩]
  · rw [if_neg c, if_neg (fun a => by
      by_cases e : q / 6 = i
      · rcases h with h | h
        · rw [e, h] at a; exact absurd a.2.2.1 (by simp)
        · exact a.2.2.2 (by omega)
      · exact c ⟨a.1, by omega, a.2.2⟩)]
theorem liftY_s {p : Nat} (hp : p < 6) (h : he i = true) (hip : i ≠ p) {x : Nat} (hx : x = T i p) : va_up (liftY he T ly p i) (6 * i + p) x = liftY he T ly p (i + 1) := by
  funext q
  rw [up_app]
  by_cases e : q = 6 * i + p
  · rw [if_pos e]
    subst e
    have e1 : (6 * i + p) / 6 = i := by omega
    unfold liftY
    rw [if_pos ⟨by omega, by omega, by rw [e1]; exact h, by omega⟩, e1, hx]
  · rw [if_neg e]
    unfold liftY
    by_cases c : q % 6 = p ∧ q / 6 < i ∧ he (q / 6) = true ∧ q / 6 ≠ p
    · rw [if_pos c, if_pos ⟨c.1, by omega, c.2.2⟩]
    · rw [if_neg c, if_neg (fun a => c ⟨a.1, by omega, a.2.2⟩)]
end LY
