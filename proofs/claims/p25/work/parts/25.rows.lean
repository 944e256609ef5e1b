/-! layers and targets, shares: functions of what the cells hold -/
def setF (ta : Nat → Nat → Nat) (gi : Nat → Nat) (re i : Nat) : Nat → Nat → Nat := fun a o => if a = re ∧ o < i then gi o else ta a o
def lowF (la ta : Nat → Nat → Nat) (i j : Nat) : Nat → Nat → Nat := fun a o => if (a < i ∧ o < 6) ∨ (a = i ∧ o < j) then min (la a o) (ta a o) else la a o
def swF (la ta : Nat → Nat → Nat) (pe i : Nat) : Nat → Nat → Nat := fun a o => if a < i ∧ o = pe then ta a o else la a o
def clrF (la : Nat → Nat → Nat) (pe i : Nat) : Nat → Nat → Nat := fun a o => if a < i ∧ o = pe then 0 else la a o
def wantI (la ta : Nat → Nat → Nat) (pe : Nat) : Nat → Bool
  | 0 => false
  | k + 1 => wantI la ta pe k || decide (la k pe < ta k pe)
theorem up2_app (M : Nat → Nat → Nat) (i j x a o : Nat) : up2 M i j x a o = if a = i ∧ o = j then x else M a o := by
  by_cases h1 : a = i <;> by_cases h2 : o = j <;> simp [up2, va_up, h1, h2]
theorem up_app {α : Type} (f : Nat → α) (k : Nat) (v : α) (j : Nat) : va_up f k v j = if j = k then v else f j := rfl
theorem setF_0 (ta : Nat → Nat → Nat) (gi : Nat → Nat) (re : Nat) : ta = setF ta gi re 0 := by funext a o; simp [setF]
theorem setF_s (ta : Nat → Nat → Nat) (gi : Nat → Nat) (re i : Nat) : up2 (setF ta gi re i) re i (gi i) = setF ta gi re (i + 1) := by
  funext a o
  simp only [up2_app, setF]
  grind
theorem clrF_0 (la : Nat → Nat → Nat) (pe : Nat) : la = clrF la pe 0 := by funext a o; simp [clrF]
theorem clrF_s (la : Nat → Nat → Nat) (pe i : Nat) : up2 (clrF la pe i) i pe 0 = clrF la pe (i + 1) := by
  funext a o
  simp only [up2_app, clrF]
  grind
theorem swF_0 (la ta : Nat → Nat → Nat) (pe : Nat) : la = swF la ta pe 0 := by funext a o; simp [swF]
theorem swF_s (la ta : Nat → Nat → Nat) (pe i : Nat) : up2 (swF la ta pe i) i pe (ta i pe) = swF la ta pe (i + 1) := by
  funext a o
  simp only [up2_app, swF]
  grind
theorem lowF_0 (la ta : Nat → Nat → Nat) : la = lowF la ta 0 0 := by funext a o; simp [lowF]
theorem lowF_r (la ta : Nat → Nat → Nat) (i : Nat) : lowF la ta i 6 = lowF la ta (i + 1) 0 := by
  funext a o
  simp only [lowF]
  grind
theorem lowF_at (la ta : Nat → Nat → Nat) (i j : Nat) : lowF la ta i j i j = la i j := by simp [lowF]
theorem lowF_yes {la ta : Nat → Nat → Nat} {i j : Nat} (h : ta i j < lowF la ta i j i j) : up2 (lowF la ta i j) i j (ta i j) = lowF la ta i (j + 1) := by
  rw [lowF_at] at h
  funext a o
  simp only [up2_app, lowF]
  grind
theorem lowF_no {la ta : Nat → Nat → Nat} {i j : Nat} (h : lowF la ta i j i j ≤ ta i j) : lowF la ta i j = lowF la ta i (j + 1) := by
  rw [lowF_at] at h
  funext a o
  simp only [lowF]
  grind
theorem lowF_le {la ta : Nat → Nat → Nat} (h : ∀ a o, a < 6 → o < 6 → la a o ≤ 3) (i j : Nat) : ∀ a o, a < 6 → o < 6 → lowF la ta i j a o ≤ 3 := by
  intro a o h1 h2
  have h3 := h a o h1 h2
  simp only [lowF]
  grind
theorem wantI_s {la ta : Nat → Nat → Nat} {pe i : Nat} (h : wantI la ta pe i = false) (hc : ta i pe ≤ la i pe) : wantI la ta pe (i + 1) = false := by
  simp only [wantI, h, Bool.false_or, decide_eq_false_iff_not]
  omega
theorem wantI_mono {la ta : Nat → Nat → Nat} {pe : Nat} : ∀ d i, wantI la ta pe i = true → wantI la ta pe (i + d) = true
  | 0, _, h => h
  | d + 1, i, h => by
    show (wantI la ta pe (i + d) || _) = true
    rw [wantI_mono d i h]
    rfl
theorem wantI_yes {la ta : Nat → Nat → Nat} {pe i : Nat} (hi : i < 6) (hc : la i pe < ta i pe) : wantI la ta pe 6 = true := by
  have h : wantI la ta pe (i + 1) = true := by simp [wantI, hc]
  have h2 := wantI_mono (la := la) (ta := ta) (pe := pe) (5 - i) (i + 1) h
  rwa [show i + 1 + (5 - i) = 6 by omega] at h2
-- shares
def zeroF (gi : Nat → Nat) (i : Nat) : Nat → Nat := fun j => if j < i then 0 else gi j
theorem zeroF_0 (gi : Nat → Nat) : gi = zeroF gi 0 := by funext j; simp [zeroF]
theorem zeroF_s (gi : Nat → Nat) (i : Nat) : va_up (zeroF gi i) i 0 = zeroF gi (i + 1) := by
  funext j
  simp only [va_up, zeroF]
  grind
theorem zeroF_3 (gi : Nat → Nat) : ∀ k, k < 6 → zeroF gi 6 k ≤ 3 := by
  intro k hk
  simp [zeroF, hk]
def b1F (ba gi : Nat → Nat) (rs o : Nat) : Bool := decide (gi o = 0 ∧ ba o ≤ rs)
def g1F (ba gi : Nat → Nat) (rs o : Nat) : Nat → Nat := if b1F ba gi rs o then va_up gi o 1 else gi
def r1F (ba gi : Nat → Nat) (rs o : Nat) : Nat := if b1F ba gi rs o then rs - ba o else rs
def b2F (se gi : Nat → Nat) (rs o : Nat) : Bool := decide (gi o ≠ 0 ∧ gi o < 3 ∧ se o ≤ rs)
def g2F (se gi : Nat → Nat) (rs o : Nat) : Nat → Nat := if b2F se gi rs o then va_up gi o (gi o + 1) else gi
def r2F (se gi : Nat → Nat) (rs o : Nat) : Nat := if b2F se gi rs o then rs - se o else rs
theorem b1_n1 {ba gi : Nat → Nat} {rs o : Nat} (h : gi o ≠ 0) : b1F ba gi rs o = false := by simp [b1F, h]
theorem b1_n2 {ba gi : Nat → Nat} {rs o : Nat} (h : rs < ba o) : b1F ba gi rs o = false := by simp [b1F]; omega
theorem b1_y {ba gi : Nat → Nat} {rs o : Nat} (h : gi o = 0) (h2 : ba o ≤ rs) : b1F ba gi rs o = true := by simp [b1F, h, h2]
theorem b2_n1 {se gi : Nat → Nat} {rs o : Nat} (h : gi o = 0) : b2F se gi rs o = false := by simp [b2F, h]
theorem b2_n2 {se gi : Nat → Nat} {rs o : Nat} (h : 3 ≤ gi o) : b2F se gi rs o = false := by simp [b2F]; omega
theorem b2_n3 {se gi : Nat → Nat} {rs o : Nat} (h : rs < se o) : b2F se gi rs o = false := by simp [b2F]; omega
theorem b2_y {se gi : Nat → Nat} {rs o : Nat} (h : gi o ≠ 0) (h1 : gi o < 3) (h2 : se o ≤ rs) : b2F se gi rs o = true := by simp [b2F, h, h1, h2]
theorem g1_n {ba gi : Nat → Nat} {rs o : Nat} (h : b1F ba gi rs o = false) : g1F ba gi rs o = gi := by simp [g1F, h]
theorem r1_n {ba gi : Nat → Nat} {rs o : Nat} (h : b1F ba gi rs o = false) : r1F ba gi rs o = rs := by simp [r1F, h]
theorem g1_y {ba gi : Nat → Nat} {rs o : Nat} (h : b1F ba gi rs o = true) : g1F ba gi rs o = va_up gi o 1 := by simp [g1F, h]
theorem r1_y {ba gi : Nat → Nat} {rs o : Nat} (h : b1F ba gi rs o = true) : r1F ba gi rs o = rs - ba o := by simp [r1F, h]
theorem g2_n {se gi : Nat → Nat} {rs o : Nat} (h : b2F se gi rs o = false) : g2F se gi rs o = gi := by simp [g2F, h]
theorem r2_n {se gi : Nat → Nat} {rs o : Nat} (h : b2F se gi rs o = false) : r2F se gi rs o = rs := by simp [r2F, h]
theorem g2_y {se gi : Nat → Nat} {rs o : Nat} (h : b2F se gi rs o = true) : g2F se gi rs o = va_up gi o (gi o + 1) := by simp [g2F, h]
theorem r2_y {se gi : Nat → Nat} {rs o : Nat} (h : b2F se gi rs o = true) : r2F se gi rs o = rs - se o := by simp [r2F, h]
theorem g1_le {ba gi : Nat → Nat} {rs : Nat} (h : ∀ k, k < 6 → gi k ≤ 3) (o : Nat) : ∀ k, k < 6 → g1F ba gi rs o k ≤ 3 := by
  intro k hk
  have h3 := h k hk
  unfold g1F
  split
  · rw [up_app]
    grind
  · exact h3
theorem r1_le (ba gi : Nat → Nat) (rs o : Nat) : r1F ba gi rs o ≤ rs := by
  simp only [r1F]
  grind
theorem g2_le {se gi : Nat → Nat} {rs : Nat} (h : ∀ k, k < 6 → gi k ≤ 3) (o : Nat) : ∀ k, k < 6 → g2F se gi rs o k ≤ 3 := by
  intro k hk
  have h3 := h k hk
  unfold g2F
  split
  · rename_i q
    simp only [b2F, decide_eq_true_eq] at q
    rw [up_app]
    grind
  · exact h3
theorem r2_le (se gi : Nat → Nat) (rs o : Nat) : r2F se gi rs o ≤ rs := by
  simp only [r2F]
  grind
abbrev sG : Type := (Nat → Nat) × Nat
def st1 (ba : Nat → Nat) (y : sG) (o : Nat) : sG := (g1F ba y.1 y.2 o, r1F ba y.1 y.2 o)
def st2 (se : Nat → Nat) (y : sG) (o : Nat) : sG := (g2F se y.1 y.2 o, r2F se y.1 y.2 o)
def sh1 (ba : Nat → Nat) (L : List Nat) (y : sG) : Nat → sG
  | 0 => y
  | i + 1 => st1 ba (sh1 ba L y i) (L.getD i 0)
def sh2 (se : Nat → Nat) (L : List Nat) (y : sG) : Nat → sG
  | 0 => y
  | i + 1 => st2 se (st2 se (sh2 se L y i) (L.getD i 0)) (L.getD i 0)
def itN (se : Nat → Nat) (y : sG) (o : Nat) : Nat → sG
  | 0 => y
  | k + 1 => st2 se (itN se y o k) o
def shF (ba se : Nat → Nat) (L : List Nat) (y : sG) : sG := sh2 se L (sh1 ba L y L.length) L.length
-- one gift
def f1F (ba gi : Nat → Nat) (rs : Nat) (L : List Nat) : Option Nat := L.find? (fun o => b1F ba gi rs o)
def f2F (se gi : Nat → Nat) (rs : Nat) (L : List Nat) : Option Nat := L.find? (fun o => b2F se gi rs o)
def oneG1 (ba gi : Nat → Nat) (rs : Nat) (L : List Nat) : Nat → Nat := match f1F ba gi rs L with
  | none => gi
  | some o => g1F ba gi rs o
def oneR1 (ba gi : Nat → Nat) (rs : Nat) (L : List Nat) : Nat := match f1F ba gi rs L with
  | none => rs
  | some o => r1F ba gi rs o
def oneG2 (se gi : Nat → Nat) (rs : Nat) (L : List Nat) : Nat → Nat := match f2F se gi rs L with
  | none => gi
  | some o => g2F se gi rs o
def oneR2 (se gi : Nat → Nat) (rs : Nat) (L : List Nat) : Nat := match f2F se gi rs L with
  | none => rs
  | some o => r2F se gi rs o
theorem find_at {q : Nat → Bool} : ∀ (L : List Nat) (i : Nat), i < L.length → (∀ j, j < i → q (L.getD j 0) = false) → q (L.getD i 0) = true → L.find? q = some (L.getD i 0)
  | [], i, h, _, _ => absurd h (Nat.not_lt_zero _)
  | a :: L, 0, _, _, h => by
    simp only [List.getD_cons_zero] at h ⊢
    simp [h]
  | a :: L, i + 1, hi, h1, h2 => by
    have h3 := h1 0 (Nat.zero_lt_succ _)
    simp only [List.getD_cons_zero] at h3
    simp only [List.getD_cons_succ] at h2 ⊢
    rw [List.find?_cons_of_neg (by simp [h3])]
    exact find_at L i (by simpa using hi) (fun j hj => by simpa using h1 (j + 1) (by omega)) h2
theorem find_no {q : Nat → Bool} : ∀ (L : List Nat), (∀ j, j < L.length → q (L.getD j 0) = false) → L.find? q = none
  | [], _ => rfl
  | a :: L, h => by
    have h3 := h 0 (by simp)
    simp only [List.getD_cons_zero] at h3
    rw [List.find?_cons_of_neg (by simp [h3])]
    exact find_no L (fun j hj => by simpa using h (j + 1) (by simpa using hj))
def stp (ba se : Nat → Nat) (L : List Nat) (y : sG) : sG := if (f1F ba y.1 y.2 L).isSome then (oneG1 ba y.1 y.2 L, oneR1 ba y.1 y.2 L) else (oneG2 se y.1 y.2 L, oneR2 se y.1 y.2 L)
def fixS (ba se : Nat → Nat) (L : List Nat) (y : sG) : Prop := f1F ba y.1 y.2 L = none ∧ f2F se y.1 y.2 L = none
def itS (ba se : Nat → Nat) (L : List Nat) (y : sG) : Nat → sG
  | 0 => y
  | k + 1 => stp ba se L (itS ba se L y k)
theorem oneG1_le {ba gi : Nat → Nat} {rs : Nat} {L : List Nat} (h : ∀ k, k < 6 → gi k ≤ 3) : ∀ k, k < 6 → oneG1 ba gi rs L k ≤ 3 := by
  unfold oneG1
  cases f1F ba gi rs L with
  | none => exact h
  | some o => exact g1_le h o
theorem oneG2_le {se gi : Nat → Nat} {rs : Nat} {L : List Nat} (h : ∀ k, k < 6 → gi k ≤ 3) : ∀ k, k < 6 → oneG2 se gi rs L k ≤ 3 := by
  unfold oneG2
  cases f2F se gi rs L with
  | none => exact h
  | some o => exact g2_le h o
theorem oneR1_le (ba gi : Nat → Nat) (rs : Nat) (L : List Nat) : oneR1 ba gi rs L ≤ rs := by
  unfold oneR1
  cases f1F ba gi rs L with
  | none => exact Nat.le_refl _
  | some o => exact r1_le ba gi rs o
theorem oneR2_le (se gi : Nat → Nat) (rs : Nat) (L : List Nat) : oneR2 se gi rs L ≤ rs := by
  unfold oneR2
  cases f2F se gi rs L with
  | none => exact Nat.le_refl _
  | some o => exact r2_le se gi rs o
theorem one1_n {ba gi : Nat → Nat} {rs : Nat} {L : List Nat} (h : f1F ba gi rs L = none) : oneG1 ba gi rs L = gi ∧ oneR1 ba gi rs L = rs := by simp [oneG1, oneR1, h]
theorem one2_n {se gi : Nat → Nat} {rs : Nat} {L : List Nat} (h : f2F se gi rs L = none) : oneG2 se gi rs L = gi ∧ oneR2 se gi rs L = rs := by simp [oneG2, oneR2, h]
theorem one1_y {ba gi : Nat → Nat} {rs o : Nat} {L : List Nat} (h : f1F ba gi rs L = some o) : oneG1 ba gi rs L = g1F ba gi rs o ∧ oneR1 ba gi rs L = r1F ba gi rs o := by simp [oneG1, oneR1, h]
theorem one2_y {se gi : Nat → Nat} {rs o : Nat} {L : List Nat} (h : f2F se gi rs L = some o) : oneG2 se gi rs L = g2F se gi rs o ∧ oneR2 se gi rs L = r2F se gi rs o := by simp [oneG2, oneR2, h]
theorem stp_1 {ba se : Nat → Nat} {L : List Nat} {gi : Nat → Nat} {rs : Nat} (h : (f1F ba gi rs L).isSome = true) : stp ba se L (gi, rs) = (oneG1 ba gi rs L, oneR1 ba gi rs L) := by
  show (if (f1F ba gi rs L).isSome then _ else _) = _
  rw [if_pos h]
theorem stp_2 {ba se : Nat → Nat} {L : List Nat} {gi : Nat → Nat} {rs : Nat} (h : (f1F ba gi rs L).isSome = false) : stp ba se L (gi, rs) = (oneG2 se gi rs L, oneR2 se gi rs L) := by
  show (if (f1F ba gi rs L).isSome then _ else _) = _
  rw [if_neg (by simp [h])]
theorem none_of {α : Type} {o : Option α} (h : o.isSome = false) : o = none := by cases o <;> simp_all
