/-! orders of people: lists of numbers below 6, each once; how a row of six and a count hold one -/
def dropL (L : List Nat) (p : Nat) : List Nat := L.filter (fun x => x != p)
def goodL (L : List Nat) : Prop := L.Nodup ∧ ∀ x ∈ L, x < 6
def lrep (row : Nat → Nat) (L : List Nat) : Prop := goodL L ∧ ∀ k, k < L.length → row k = L.getD k 0
theorem len_lt : ∀ (n : Nat) (L : List Nat), L.Nodup → (∀ x ∈ L, x < n) → L.length ≤ n
  | 0, L, _, h => by
    cases L with
    | nil => simp
    | cons a l => exact absurd (h a List.mem_cons_self) (Nat.not_lt_zero _)
  | n + 1, L, hn, h => by
    have h1 : (L.erase n).length ≤ n := len_lt n (L.erase n) (hn.erase n) (fun x hx => by
      have h2 := (List.Nodup.mem_erase_iff hn).mp hx
      have h3 := h x h2.2
      omega)
    by_cases hm : n ∈ L
    · have h4 := List.length_erase_of_mem hm
      omega
    · rw [List.erase_of_not_mem hm] at h1
      omega
theorem goodL.len {L : List Nat} (h : goodL L) : L.length ≤ 6 := len_lt 6 L h.1 h.2
theorem goodL.drop {L : List Nat} (h : goodL L) (p : Nat) : goodL (dropL L p) := ⟨h.1.filter _, fun x hx => h.2 x (List.mem_filter.mp hx).1⟩
theorem goodL.drop_len {L : List Nat} (h : goodL L) {p : Nat} (hp : p < 6) : (dropL L p).length < 6 := by
  have h1 : goodL (p :: dropL L p) := ⟨List.nodup_cons.mpr ⟨fun q => by simp [dropL] at q, (h.drop p).1⟩, fun x hx => by
    rcases List.mem_cons.mp hx with rfl | q
    · exact hp
    · exact (h.drop p).2 x q⟩
  have h2 := h1.len
  simp only [List.length_cons] at h2
  omega
theorem goodL.nil : goodL [] := ⟨List.nodup_nil, fun x h => by cases h⟩
theorem lrep.len {row : Nat → Nat} {L : List Nat} (h : lrep row L) : L.length ≤ 6 := h.1.len
theorem lrep.lt {row : Nat → Nat} {L : List Nat} (h : lrep row L) {k : Nat} (hk : k < L.length) : row k < 6 := by
  rw [h.2 k hk]
  exact h.1.2 _ (by simp [List.getD_eq_getElem?_getD, hk])
theorem getD_in {L : List Nat} {k : Nat} (hk : k < L.length) : L.getD k 0 ∈ L := by simp [List.getD_eq_getElem?_getD, hk]
theorem take_s {L : List Nat} {k : Nat} (hk : k < L.length) : L.take (k + 1) = L.take k ++ [L.getD k 0] := by
  rw [List.take_succ_eq_append_getElem hk]
  simp [List.getD_eq_getElem?_getD, hk]
/-- drop: k kept of the first i -/
def dropI (L : List Nat) (p : Nat) (r : Nat → Nat) (k i : Nat) : Prop := i ≤ L.length ∧ k = (dropL (L.take i) p).length ∧ (∀ j, j < k → r j = (dropL (L.take i) p).getD j 0) ∧ ∀ j, i ≤ j → j < L.length → r j = L.getD j 0
theorem dropI.le {L : List Nat} {p : Nat} {r : Nat → Nat} {k i : Nat} (h : dropI L p r k i) : k ≤ i := by
  obtain ⟨h1, h2, -, -⟩ := h
  have h3 : (dropL (L.take i) p).length ≤ (L.take i).length := List.length_filter_le _ _
  rw [List.length_take] at h3
  omega
theorem dropI_0 {L : List Nat} {p : Nat} {r : Nat → Nat} (h : lrep r L) : dropI L p r 0 0 := ⟨Nat.zero_le _, by simp [dropL], fun j hj => absurd hj (Nat.not_lt_zero _), fun j _ hj => h.2 j hj⟩
theorem dropI_keep {L : List Nat} {p : Nat} {r : Nat → Nat} {k i : Nat} (h : dropI L p r k i) (hi : i < L.length) (hc : r i ≠ p) : dropI L p (va_up r k (r i)) (k + 1) (i + 1) := by
  have hle := h.le
  obtain ⟨h1, h2, h3, h4⟩ := h
  have e : r i = L.getD i 0 := h4 i (Nat.le_refl _) hi
  have e2 : dropL (L.take (i + 1)) p = dropL (L.take i) p ++ [r i] := by
    rw [take_s hi, ← e]
    simp [dropL, hc]
  refine ⟨hi, by rw [e2, List.length_append, ← h2]; rfl, fun j hj => ?_, fun j hj hl => ?_⟩
  · rw [e2]
    by_cases hjk : j = k
    · subst hjk
      simp [va_up, List.getD_eq_getElem?_getD, h2]
    · have hj2 : j < k := by omega
      rw [va_up_ne _ _ hjk, h3 j hj2]
      simp only [List.getD_eq_getElem?_getD]
      rw [List.getElem?_append_left (by omega)]
  · rw [va_up_ne _ _ (by omega)]
    exact h4 j (by omega) hl
theorem dropI_skip {L : List Nat} {p : Nat} {r : Nat → Nat} {k i : Nat} (h : dropI L p r k i) (hi : i < L.length) (hc : r i = p) : dropI L p r k (i + 1) := by
  obtain ⟨h1, h2, h3, h4⟩ := h
  have e : r i = L.getD i 0 := h4 i (Nat.le_refl _) hi
  have e2 : dropL (L.take (i + 1)) p = dropL (L.take i) p := by
    rw [take_s hi, ← e, hc]
    simp [dropL]
  exact ⟨hi, by rw [e2]; exact h2, fun j hj => by rw [e2]; exact h3 j hj, fun j hj hl => h4 j (by omega) hl⟩
theorem dropI_end {L : List Nat} {p : Nat} {r r0 : Nat → Nat} {k i : Nat} (h0 : lrep r0 L) (h : dropI L p r k i) (hi : L.length ≤ i) : lrep r (dropL L p) ∧ k = (dropL L p).length := by
  obtain ⟨h1, h2, h3, h4⟩ := h
  have e : L.take i = L := List.take_of_length_le hi
  rw [e] at h2 h3
  exact ⟨⟨h0.1.drop p, fun j hj => h3 j (by omega)⟩, h2⟩
theorem lrep_nil (r : Nat → Nat) : lrep r [] := ⟨goodL.nil, fun k h => absurd h (Nat.not_lt_zero _)⟩
theorem lrep_last {L : List Nat} {r : Nat → Nat} (h : lrep r L) {p : Nat} (hp : p < 6) (hn : p ∉ L) : lrep (va_up r L.length p) (L ++ [p]) := by
  refine ⟨⟨?_, ?_⟩, fun k hk => ?_⟩
  · rw [List.nodup_append]
    exact ⟨h.1.1, by simp, fun a ha b hb => by
      rw [List.mem_singleton.mp hb]
      exact fun e => hn (e ▸ ha)⟩
  · intro x hx
    rcases List.mem_append.mp hx with q | q
    · exact h.1.2 x q
    · rw [List.mem_singleton.mp q]; exact hp
  · rw [List.length_append] at hk
    simp only [List.length_cons, List.length_nil] at hk
    by_cases e : k = L.length
    · subst e
      simp [va_up, List.getD_eq_getElem?_getD]
    · rw [va_up_ne _ _ e, h.2 k (by omega)]
      simp only [List.getD_eq_getElem?_getD]
      rw [List.getElem?_append_left (by omega)]
theorem drop_notin (L : List Nat) (p : Nat) : p ∉ dropL L p := by simp [dropL]
/-- the shift to the right by one: the places from k on are done -/
def shiftI (L : List Nat) (r : Nat → Nat) (k : Nat) : Prop := k ≤ L.length ∧ (∀ j, j < k → r j = L.getD j 0) ∧ ∀ j, k < j → j ≤ L.length → r j = L.getD (j - 1) 0
theorem shiftI_0 {L : List Nat} {r : Nat → Nat} (h : lrep r L) : shiftI L r L.length := ⟨Nat.le_refl _, h.2, fun j h1 h2 => by omega⟩
theorem shiftI_s {L : List Nat} {r : Nat → Nat} {k : Nat} (h : shiftI L r k) (hk : 0 < k) : shiftI L (va_up r k (r (k - 1))) (k - 1) := by
  obtain ⟨h1, h2, h3⟩ := h
  refine ⟨by omega, fun j hj => ?_, fun j hj hl => ?_⟩
  · rw [va_up_ne _ _ (by omega)]
    exact h2 j (by omega)
  · by_cases e : j = k
    · subst e
      simp only [va_up, if_true]
      exact h2 _ (by omega)
    · rw [va_up_ne _ _ e]
      exact h3 j (by omega) hl
theorem shiftI_end {L : List Nat} {r : Nat → Nat} (h : shiftI L r 0) (hg : goodL L) {p : Nat} (hp : p < 6) (hn : p ∉ L) : lrep (va_up r 0 p) (p :: L) := by
  obtain ⟨h1, h2, h3⟩ := h
  refine ⟨⟨List.nodup_cons.mpr ⟨hn, hg.1⟩, fun x hx => ?_⟩, fun k hk => ?_⟩
  · rcases List.mem_cons.mp hx with rfl | q
    · exact hp
    · exact hg.2 x q
  · simp only [List.length_cons] at hk
    cases k with
    | zero => simp [va_up]
    | succ k =>
      rw [va_up_ne _ _ (by omega), h3 (k + 1) (by omega) (by omega)]
      simp
/-- p isn't among the first i -/
def holdsI (L : List Nat) (p i : Nat) : Prop := i ≤ L.length ∧ p ∉ L.take i
theorem holdsI_0 (L : List Nat) (p : Nat) : holdsI L p 0 := ⟨Nat.zero_le _, by simp⟩
theorem holdsI_s {L : List Nat} {p i : Nat} {r : Nat → Nat} (h : holdsI L p i) (hr : lrep r L) (hi : i < L.length) (hc : r i ≠ p) : holdsI L p (i + 1) := by
  refine ⟨hi, ?_⟩
  rw [take_s hi]
  intro q
  rcases List.mem_append.mp q with q | q
  · exact h.2 q
  · rw [List.mem_singleton] at q
    exact hc (by rw [hr.2 i hi]; exact q.symm)
theorem holdsI_end {L : List Nat} {p i : Nat} (h : holdsI L p i) (hi : L.length ≤ i) : L.contains p = false := by
  have e : L.take i = L := List.take_of_length_le hi
  have h2 := h.2
  rw [e] at h2
  simpa using h2
theorem holds_yes {L : List Nat} {p i : Nat} {r : Nat → Nat} (hr : lrep r L) (hi : i < L.length) (hc : r i = p) : L.contains p = true := by
  have h1 := getD_in hi
  rw [← hr.2 i hi, hc] at h1
  simpa using h1
/-! put last: one who is in the line already keeps its place -/
def putL (L : List Nat) (p : Nat) : List Nat := if L.contains p then L else L ++ [p]
theorem cont_no {L : List Nat} {p : Nat} (h : L.contains p = false) : p ∉ L := by
  intro q
  have h2 : L.contains p = true := List.contains_iff_mem.mpr q
  rw [h] at h2
  cases h2
theorem putL_yes {L : List Nat} {p : Nat} (h : L.contains p = true) : putL L p = L := by
  unfold putL
  rw [h]
  rfl
theorem putL_no {L : List Nat} {p : Nat} (h : L.contains p = false) : putL L p = L ++ [p] := by
  unfold putL
  rw [h]
  rfl
theorem putL_full {L : List Nat} {p : Nat} (hg : goodL L) (hp : p < 6) (hl : 6 ≤ L.length) : putL L p = L := by
  cases h : L.contains p with
  | true => exact putL_yes h
  | false =>
    exfalso
    have h1 : goodL (p :: L) := ⟨List.nodup_cons.mpr ⟨cont_no h, hg.1⟩, fun x hx => by
      rcases List.mem_cons.mp hx with rfl | q
      · exact hp
      · exact hg.2 x q⟩
    have h2 := h1.len
    simp only [List.length_cons] at h2
    omega
theorem put_drop (L : List Nat) (p : Nat) : putL (dropL L p) p = dropL L p ++ [p] := by
  refine putL_no ?_
  cases h : (dropL L p).contains p with
  | false => rfl
  | true => exact absurd (List.contains_iff_mem.mp h) (drop_notin L p)
