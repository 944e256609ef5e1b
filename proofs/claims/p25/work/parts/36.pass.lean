/-! some seconds -/
def secF (he mu : Nat → Bool) (lv pl es : Nat → Nat) (pn : Nat → Option Nat) (pu : List Nat) (ba se : Nat → Nat) (ho li : Nat) (y : sS) : sS × Nat := match y with
  | (ld, lo, ls, sp, ta, la, kc, ak, lk, ck) => ((ldF (loudF he mu lv) lo ld ls ho, loudF he mu lv, lsF (loudF he mu lv) lo ls, spF (loudF he mu lv) lo ls ho sp, tgI he pu pl pn (spF (loudF he mu lv) lo ls ho sp) ba se es ta 6, (secM he mu lv pl es pn pu ba se ho li lo ls sp ta la kc ak lk ck).2.2.2.1, (secM he mu lv pl es pn pu ba se ho li lo ls sp ta la kc ak lk ck).1, (secM he mu lv pl es pn pu ba se ho li lo ls sp ta la kc ak lk ck).2.1, (secM he mu lv pl es pn pu ba se ho li lo ls sp ta la kc ak lk ck).2.2.1, ck + 1), (secM he mu lv pl es pn pu ba se ho li lo ls sp ta la kc ak lk ck).2.2.2.2)
def itC (he mu : Nat → Bool) (lv pl es : Nat → Nat) (pn : Nat → Option Nat) (pu : List Nat) (ba se : Nat → Nat) (ho li : Nat) (y : sS) : Nat → sS × Nat
  | 0 => (y, 0)
  | k + 1 => ((secF he mu lv pl es pn pu ba se ho li (itC he mu lv pl es pn pu ba se ho li y k).1).1, (itC he mu lv pl es pn pu ba se ho li y k).2 + (secF he mu lv pl es pn pu ba se ho li (itC he mu lv pl es pn pu ba se ho li y k).1).2)
theorem itC_s {he mu : Nat → Bool} {lv pl es : Nat → Nat} {pn : Nat → Option Nat} {pu : List Nat} {ba se : Nat → Nat} {ho li : Nat} {y : sS} {k : Nat} {ld lo : Option Nat} {ls : Nat} {sp : List Nat} {ta la : Nat → Nat → Nat} {kc : Nat → Nat} {ak : Nat → Bool} {lk : Nat → Nat} {ck nm : Nat} (h : itC he mu lv pl es pn pu ba se ho li y k = ((ld, lo, ls, sp, ta, la, kc, ak, lk, ck), nm)) :
    itC he mu lv pl es pn pu ba se ho li y (k + 1) = ((ldF (loudF he mu lv) lo ld ls ho, loudF he mu lv, lsF (loudF he mu lv) lo ls, spF (loudF he mu lv) lo ls ho sp, tgI he pu pl pn (spF (loudF he mu lv) lo ls ho sp) ba se es ta 6, (secM he mu lv pl es pn pu ba se ho li lo ls sp ta la kc ak lk ck).2.2.2.1, (secM he mu lv pl es pn pu ba se ho li lo ls sp ta la kc ak lk ck).1, (secM he mu lv pl es pn pu ba se ho li lo ls sp ta la kc ak lk ck).2.1, (secM he mu lv pl es pn pu ba se ho li lo ls sp ta la kc ak lk ck).2.2.1, ck + 1), nm + (secM he mu lv pl es pn pu ba se ho li lo ls sp ta la kc ak lk ck).2.2.2.2) := by
  simp only [itC]
  rw [h]
  rfl
theorem itC_t {he mu : Nat → Bool} {lv pl es : Nat → Nat} {pn : Nat → Option Nat} {pu : List Nat} {ba se : Nat → Nat} {ho li : Nat} {y : sS} {k : Nat} {ld lo : Option Nat} {ls : Nat} {sp : List Nat} {ta la : Nat → Nat → Nat} {kc : Nat → Nat} {ak : Nat → Bool} {lk : Nat → Nat} {ck nm : Nat} (h : itC he mu lv pl es pn pu ba se ho li y k = ((ld, lo, ls, sp, ta, la, kc, ak, lk, ck), nm)) {kc9 : Nat → Nat} {ak9 : Nat → Bool} {lk9 : Nat → Nat} {la9 : Nat → Nat → Nat} {nm9 : Nat} (h2 : secM he mu lv pl es pn pu ba se ho li lo ls sp ta la kc ak lk ck = (kc9, ak9, lk9, la9, nm9)) :
    itC he mu lv pl es pn pu ba se ho li y (k + 1) = ((ldF (loudF he mu lv) lo ld ls ho, loudF he mu lv, lsF (loudF he mu lv) lo ls, spF (loudF he mu lv) lo ls ho sp, tgI he pu pl pn (spF (loudF he mu lv) lo ls ho sp) ba se es ta 6, la9, kc9, ak9, lk9, ck + 1), nm + nm9) := by
  rw [itC_s h, h2]
theorem lsF_le (fo lo : Option Nat) (ls : Nat) : lsF fo lo ls ≤ ls + 1 := by
  unfold lsF
  split <;> omega
theorem ldF_6 {fo lo ld : Option Nat} {ls ho : Nat} (hf : ∀ j, fo = some j → j < 6) (hl : ∀ j, ld = some j → j < 6) : ∀ j, ldF fo lo ld ls ho = some j → j < 6 := by
  intro j h
  cases fo with
  | none => exact hl j h
  | some k =>
    have h2 : (if ho ≤ lsF (some k) lo ls then some k else ld) = some j := h
    split at h2
    · cases h2; exact hf _ rfl
    · exact hl j h2
theorem swF_3 {la ta : Nat → Nat → Nat} (h1 : ∀ a o, a < 6 → o < 6 → la a o ≤ 3) (h2 : ∀ a o, a < 6 → o < 6 → ta a o ≤ 3) (pe k : Nat) : ∀ a o, a < 6 → o < 6 → swF la ta pe k a o ≤ 3 := by
  intro a o ha ho
  simp only [swF]
  split
  · exact h2 a o ha ho
  · exact h1 a o ha ho
theorem mkI_3 {ta : Nat → Nat → Nat} {li ck : Nat} {y : mS} (h : ∀ a o, a < 6 → o < 6 → y.2.2.2.1 a o ≤ 3) (h2 : ∀ a o, a < 6 → o < 6 → ta a o ≤ 3) : ∀ i a o, a < 6 → o < 6 → (mkI ta li ck y i).2.2.2.1 a o ≤ 3
  | 0, a, o, h3, h4 => h a o h3 h4
  | i + 1, a, o, h3, h4 => by
    have h5 := mkI_3 (li := li) (ck := ck) h h2 i
    simp only [mkI]
    split
    · exact swF_3 h5 h2 i 6 a o h3 h4
    · exact h5 a o h3 h4
section SB
variable {he mu : Nat → Bool} {lv pl es : Nat → Nat} {pn : Nat → Option Nat} {pu : List Nat} {ba se : Nat → Nat} {ho li : Nat} {lo : Option Nat} {ls : Nat} {sp : List Nat} {ta la : Nat → Nat → Nat} {kc : Nat → Nat} {ak : Nat → Bool} {lk : Nat → Nat} {ck : Nat}
theorem secM_kc (h : ∀ k, kc k ≤ ck) : ∀ k, (secM he mu lv pl es pn pu ba se ho li lo ls sp ta la kc ak lk ck).1 k ≤ ck + 1 := fun k => (mkI_kc (fun k => Nat.succ_le_succ (h k)) 6 k).1
theorem secM_lk (h : ∀ k, lk k ≤ ck) : ∀ k, (secM he mu lv pl es pn pu ba se ho li lo ls sp ta la kc ak lk ck).2.2.1 k ≤ ck + 1 := fun k => mkI_lk (fun k => Nat.le_succ_of_le (h k)) 6 k
theorem secM_nm : (secM he mu lv pl es pn pu ba se ho li lo ls sp ta la kc ak lk ck).2.2.2.2 ≤ 6 := by
  have h := mkI_nm (ta := tgI he pu pl pn (spF (loudF he mu lv) lo ls ho sp) ba se es ta 6) (li := li) (ck := ck + 1) (y := (kc, askI (lowF la (tgI he pu pl pn (spF (loudF he mu lv) lo ls ho sp) ba se es ta 6) 6 0) (tgI he pu pl pn (spF (loudF he mu lv) lo ls ho sp) ba se es ta 6) ak 6, lk, lowF la (tgI he pu pl pn (spF (loudF he mu lv) lo ls ho sp) ba se es ta 6) 6 0, 0)) 6
  exact Nat.le_trans h (by simp)
theorem secM_la (hta : ∀ a o, a < 6 → o < 6 → tgI he pu pl pn (spF (loudF he mu lv) lo ls ho sp) ba se es ta 6 a o ≤ 3) (hla : ∀ a o, a < 6 → o < 6 → la a o ≤ 3) : ∀ a o, a < 6 → o < 6 → (secM he mu lv pl es pn pu ba se ho li lo ls sp ta la kc ak lk ck).2.2.2.1 a o ≤ 3 := mkI_3 (lowF_le hla 6 0) hta 6
end SB
def sentI (la : Nat → Nat → Nat) (ba se : Nat → Nat) (re : Nat) : Nat → Nat
  | 0 => 0
  | k + 1 => sentI la ba se re k + rateF ba se k (la re k)
theorem rateF_le {ba se : Nat → Nat} (h1 : ∀ k, ba k ≤ 100) (h2 : ∀ k, se k ≤ 100) {pe y : Nat} (hy : y ≤ 3) : rateF ba se pe y ≤ 400 := by
  unfold rateF
  split
  · omega
  · have h3 := h1 pe
    have h4 : (y - 1) * se pe ≤ 2 * 100 := Nat.mul_le_mul (by omega) (h2 pe)
    omega
theorem sentI_le {la : Nat → Nat → Nat} {ba se : Nat → Nat} (h1 : ∀ k, ba k ≤ 100) (h2 : ∀ k, se k ≤ 100) {re : Nat} (hre : re < 6) (hla : ∀ a o, a < 6 → o < 6 → la a o ≤ 3) : ∀ k, k ≤ 6 → sentI la ba se re k ≤ 400 * k
  | 0, _ => Nat.le_refl 0
  | k + 1, h => by
    have h3 := sentI_le h1 h2 hre hla k (by omega)
    have h4 := rateF_le h1 h2 (pe := k) (hla re k hre (by omega))
    simp only [sentI]
    omega
