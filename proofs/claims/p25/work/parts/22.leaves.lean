/-! what the small methods answer, as functions of what the cells hold -/
def isP (he : Nat → Bool) (x : Int32) : Bool := decide (¬ x < 0) && (decide (¬ nI 6 ≤ x) && he x.toNatClampNeg)
theorem isP_neg {he : Nat → Bool} {x : Int32} (h : x < 0) : isP he x = false := by simp [isP, h]
theorem isP_big {he : Nat → Bool} {x : Int32} (h : nI 6 ≤ x) : isP he x = false := by simp [isP, h]
theorem isP_val {he : Nat → Bool} {x : Int32} (h : ¬ x < 0) (h2 : ¬ nI 6 ≤ x) : isP he x = he x.toNatClampNeg := by simp [isP, h, h2]
theorem six_of {x : Int32} (h : ¬ x < 0) (h2 : ¬ nI 6 ≤ x) : ∃ j, j < 6 ∧ x = nI j := by
  obtain ⟨j, hj, rfl⟩ := nI_of h
  exact ⟨j, Nat.lt_of_not_le fun q => h2 (nI_le q hj), rfl⟩
theorem six_in {x : Int32} (h : ¬ x < 0) (h2 : ¬ nI 6 ≤ x) : vp_in x 6 := by
  obtain ⟨j, hj, rfl⟩ := six_of h h2
  exact vp_in_nI hj (by decide)
theorem isP_nI {he : Nat → Bool} {j : Nat} (hj : j < 6) : isP he (nI j) = he j := by
  rw [isP_val (nI_pos (by omega)) (fun q => absurd ((nI_leI (by decide) (by omega)).mp q) (by omega)), nI_clamp (by omega)]
theorem isP_of {he : Nat → Bool} {x : Int32} (h : isP he x = true) : ∃ j, j < 6 ∧ x = nI j ∧ he j = true := by
  simp only [isP, Bool.and_eq_true, decide_eq_true_eq] at h
  obtain ⟨h1, h2, h3⟩ := h
  obtain ⟨j, hj, rfl⟩ := six_of h1 h2
  rw [nI_clamp (by omega)] at h3
  exact ⟨j, hj, rfl, h3⟩
def cntB (he : Nat → Bool) : Nat → Nat
  | 0 => 0
  | k + 1 => cntB he k + (if he k then 1 else 0)
theorem cntB_le (he : Nat → Bool) : ∀ k, cntB he k ≤ k
  | 0 => Nat.le_refl 0
  | k + 1 => by
    have h := cntB_le he k
    show cntB he k + (if he k then 1 else 0) ≤ k + 1
    split <;> omega
theorem cntB_yes {he : Nat → Bool} {k : Nat} (h : he k = true) : cntB he (k + 1) = cntB he k + 1 := by simp [cntB, h]
theorem cntB_no {he : Nat → Bool} {k : Nat} (h : he k = false) : cntB he (k + 1) = cntB he k := by simp [cntB, h]
def firstF (he : Nat → Bool) (i : Nat) : Nat → Option Nat
  | 0 => none
  | k + 1 => if he i then firstF he (i + 1) k else some i
def freeS (he : Nat → Bool) : Option Nat := firstF he 0 6
theorem firstF_skip (he : Nat → Bool) : ∀ (k i d : Nat), (∀ j, i ≤ j → j < i + k → he j = true) → firstF he i (k + d) = firstF he (i + k) d
  | 0, i, d, _ => by simp
  | k + 1, i, d, h => by
    have e : k + 1 + d = (k + d) + 1 := by omega
    rw [e]
    show (if he i then firstF he (i + 1) (k + d) else some i) = _
    rw [h i (Nat.le_refl _) (by omega), if_pos rfl, firstF_skip he k (i + 1) d (fun j h1 h2 => h j (by omega) (by omega))]
    congr 1
    omega
theorem freeS_some {he : Nat → Bool} {i : Nat} (hi : i < 6) (h : ∀ j, j < i → he j = true) (hf : he i = false) : freeS he = some i := by
  have e := firstF_skip he i 0 (6 - i) (fun j _ h2 => h j (by omega))
  rw [show i + (6 - i) = 6 by omega] at e
  unfold freeS
  rw [e, show 6 - i = (5 - i) + 1 by omega]
  show (if he (0 + i) then firstF he (0 + i + 1) (5 - i) else some (0 + i)) = some i
  simp [hf]
theorem freeS_none {he : Nat → Bool} (h : ∀ j, j < 6 → he j = true) : freeS he = none := by
  have e := firstF_skip he 6 0 0 (fun j _ h2 => h j (by omega))
  unfold freeS
  rw [e]
  rfl
def loudI (he mu : Nat → Bool) (lv : Nat → Nat) : Nat → Option Nat × Nat
  | 0 => (none, 29)
  | k + 1 => if he k && !mu k && decide ((loudI he mu lv k).2 < lv k) then (some k, lv k) else loudI he mu lv k
def loudF (he mu : Nat → Bool) (lv : Nat → Nat) : Option Nat := (loudI he mu lv 6).1
theorem loudI_no1 {he mu : Nat → Bool} {lv : Nat → Nat} {k : Nat} (h : he k = false) : loudI he mu lv (k + 1) = loudI he mu lv k := by simp [loudI, h]
theorem loudI_no2 {he mu : Nat → Bool} {lv : Nat → Nat} {k : Nat} (h : mu k = true) : loudI he mu lv (k + 1) = loudI he mu lv k := by simp [loudI, h]
theorem loudI_no3 {he mu : Nat → Bool} {lv : Nat → Nat} {k : Nat} (h : lv k ≤ (loudI he mu lv k).2) : loudI he mu lv (k + 1) = loudI he mu lv k := by
  simp [loudI, Nat.not_lt.mpr h]
theorem loudI_yes {he mu : Nat → Bool} {lv : Nat → Nat} {k : Nat} (h1 : he k = true) (h2 : mu k = false) (h : (loudI he mu lv k).2 < lv k) : loudI he mu lv (k + 1) = (some k, lv k) := by simp [loudI, h1, h2, h]
theorem loudI_lt (he mu : Nat → Bool) (lv : Nat → Nat) : ∀ k j, (loudI he mu lv k).1 = some j → j < k
  | 0, j, h => by cases h
  | k + 1, j, h => by
    simp only [loudI] at h
    split at h
    · cases h; omega
    · exact Nat.lt_succ_of_lt (loudI_lt he mu lv k j h)
theorem loudI_in (he mu : Nat → Bool) (lv : Nat → Nat) : ∀ k j, (loudI he mu lv k).1 = some j → he j = true
  | 0, j, h => by cases h
  | k + 1, j, h => by
    simp only [loudI] at h
    split at h
    · rename_i q
      cases h
      simp only [Bool.and_eq_true] at q
      exact q.1.1
    · exact loudI_in he mu lv k j h
theorem loudI_100 {he mu : Nat → Bool} {lv : Nat → Nat} (h : ∀ k, lv k ≤ 100) : ∀ k, (loudI he mu lv k).2 ≤ 100
  | 0 => by show 29 ≤ 100; decide
  | k + 1 => by
    simp only [loudI]
    split
    · exact h k
    · exact loudI_100 h k
theorem loudF_lt {he mu : Nat → Bool} {lv : Nat → Nat} {j : Nat} (h : loudF he mu lv = some j) : j < 6 := loudI_lt he mu lv 6 j h
theorem loudF_in {he mu : Nat → Bool} {lv : Nat → Nat} {j : Nat} (h : loudF he mu lv = some j) : he j = true := loudI_in he mu lv 6 j h
def lsF (fo lo : Option Nat) (ls : Nat) : Nat := if fo = lo then ls + 1 else 1
def ldF (fo lo ld : Option Nat) (ls ho : Nat) : Option Nat := match fo with
  | none => ld
  | some j => if ho ≤ lsF fo lo ls then some j else ld
def spF (fo lo : Option Nat) (ls ho : Nat) (sp : List Nat) : List Nat := match fo with
  | none => sp
  | some j => if ho ≤ lsF fo lo ls then j :: dropL sp j else sp
theorem ldF_lt {fo lo ld : Option Nat} {ls ho : Nat} (h : lsF fo lo ls < ho) : ldF fo lo ld ls ho = ld := by
  cases fo with
  | none => rfl
  | some j =>
    show (if ho ≤ lsF (some j) lo ls then some j else ld) = ld
    rw [if_neg (by omega)]
theorem ldF_ge {lo ld : Option Nat} {j ls ho : Nat} (h : ho ≤ lsF (some j) lo ls) : ldF (some j) lo ld ls ho = some j := by
  show (if ho ≤ lsF (some j) lo ls then some j else ld) = some j
  rw [if_pos h]
theorem spF_lt {fo lo : Option Nat} {ls ho : Nat} {sp : List Nat} (h : lsF fo lo ls < ho) : spF fo lo ls ho sp = sp := by
  cases fo with
  | none => rfl
  | some j =>
    show (if ho ≤ lsF (some j) lo ls then j :: dropL sp j else sp) = sp
    rw [if_neg (by omega)]
theorem spF_ge {lo : Option Nat} {j ls ho : Nat} {sp : List Nat} (h : ho ≤ lsF (some j) lo ls) : spF (some j) lo ls ho sp = j :: dropL sp j := by
  show (if ho ≤ lsF (some j) lo ls then j :: dropL sp j else sp) = _
  rw [if_pos h]
def remO (o : Option Nat) (pe : Nat) : Option Nat := if o = some pe then none else o
theorem remO_yes {o : Option Nat} {pe : Nat} (h : o = some pe) : remO o pe = none := if_pos h
theorem remO_no {o : Option Nat} {pe : Nat} (h : o ≠ some pe) : remO o pe = o := if_neg h
def rateF (ba se : Nat → Nat) (pe y : Nat) : Nat := if y = 0 then 0 else ba pe + (y - 1) * se pe
def canF (ak : Nat → Bool) (kc lk : Nat → Nat) (li pe ti : Nat) : Bool := ak pe && (decide (kc pe = 0) || decide (li < ti - lk pe))
def unpinF (pn : Nat → Option Nat) (pe k : Nat) : Nat → Option Nat := fun r => if r < k ∧ pn r = some pe then none else pn r
theorem unpinF_0 (pn : Nat → Option Nat) (pe : Nat) : pn = unpinF pn pe 0 := by funext r; simp [unpinF]
theorem unpinF_yes {pn : Nat → Option Nat} {pe k : Nat} (h : unpinF pn pe k k = some pe) : va_up (unpinF pn pe k) k none = unpinF pn pe (k + 1) := by
  funext r
  have e : pn k = some pe := by simpa [unpinF] using h
  by_cases hr : r = k
  · subst hr
    simp [va_up, unpinF, e]
  · rw [va_up_ne _ _ hr]
    simp only [unpinF]
    congr 1
    simp only [eq_iff_iff]
    exact ⟨fun q => ⟨by omega, q.2⟩, fun q => ⟨by omega, q.2⟩⟩
theorem unpinF_no {pn : Nat → Option Nat} {pe k : Nat} (h : unpinF pn pe k k ≠ some pe) : unpinF pn pe k = unpinF pn pe (k + 1) := by
  funext r
  have e : pn k ≠ some pe := by simpa [unpinF] using h
  simp only [unpinF]
  congr 1
  simp only [eq_iff_iff]
  refine ⟨fun q => ⟨by omega, q.2⟩, fun q => ⟨?_, q.2⟩⟩
  by_cases hr : r = k
  · subst hr; exact absurd q.2 e
  · omega
theorem unpinF_lt {pn : Nat → Option Nat} (h : ∀ r j, pn r = some j → j < 6) (pe k : Nat) : ∀ r j, unpinF pn pe k r = some j → j < 6 := by
  intro r j q
  simp only [unpinF] at q
  split at q
  · cases q
  · exact h r j q
