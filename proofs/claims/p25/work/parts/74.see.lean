/-! what a receiver sees, counted; the rates that are shared out; bits -/
theorem cntB_cg {f g : Nat → Bool} : ∀ n, (∀ x, x < n → f x = g x) → cntB f n = cntB g n
  | 0, _ => rfl
  | n + 1, h => by
    show cntB f n + (if f n then 1 else 0) = cntB g n + (if g n then 1 else 0)
    rw [cntB_cg n (fun x hx => h x (Nat.lt_succ_of_lt hx)), h n (Nat.lt_succ_self n)]
theorem cntB_mono {f g : Nat → Bool} : ∀ n, (∀ x, x < n → f x = true → g x = true) → cntB f n ≤ cntB g n
  | 0, _ => Nat.le_refl 0
  | n + 1, h => by
    show cntB f n + (if f n then 1 else 0) ≤ cntB g n + (if g n then 1 else 0)
    have h1 := cntB_mono n (fun x hx => h x (Nat.lt_succ_of_lt hx))
    have h2 := h n (Nat.lt_succ_self n)
    cases c : f n with
    | false =>
      rw [if_neg (by decide)]
      exact Nat.le_trans h1 (Nat.le_add_right _ _)
    | true =>
      rw [h2 c, if_pos rfl]
      exact Nat.add_le_add_right h1 1
theorem len_cnt : ∀ (n : Nat) (L : List Nat), L.Nodup → (∀ x ∈ L, x < n) → L.length = cntB (fun x => L.contains x) n
  | 0, L, _, h => by
    cases L with
    | nil => rfl
    | cons a l => exact absurd (h a List.mem_cons_self) (Nat.not_lt_zero _)
  | n + 1, L, hn, h => by
    have h0 := len_cnt n (L.erase n) (hn.erase n) (fun x hx => by
      have h2 := (List.Nodup.mem_erase_iff hn).mp hx
      have h3 := h x h2.2
      omega)
    have h1 : cntB (fun x => (L.erase n).contains x) n = cntB (fun x => L.contains x) n := cntB_cg n (fun x hx => by
      have hne : x ≠ n := by omega
      cases c : L.contains x with
      | true => exact List.contains_iff_mem.mpr ((List.Nodup.mem_erase_iff hn).mpr ⟨hne, List.contains_iff_mem.mp c⟩)
      | false => exact Bool.eq_false_iff.mpr (fun q => by
          have q2 := ((List.Nodup.mem_erase_iff hn).mp (List.contains_iff_mem.mp q)).2
          rw [List.contains_iff_mem.mpr q2] at c
          cases c))
    rw [h1] at h0
    show L.length = cntB (fun x => L.contains x) n + (if L.contains n then 1 else 0)
    cases c : L.contains n with
    | true =>
      have hm := List.contains_iff_mem.mp c
      have h4 := List.length_erase_of_mem hm
      have h5 : 0 < L.length := List.length_pos_of_mem hm
      rw [if_pos rfl, ← h0]
      omega
    | false =>
      have h6 : L.erase n = L := List.erase_of_not_mem (cont_no c)
      rw [h6] at h0
      rw [if_neg (by decide)]
      exact h0
/-- whose stream the receiver re may see -/
def elF (he : Nat → Bool) (pu : List Nat) (re x : Nat) : Bool := he x && (!(x == re) && pu.contains x)
section SE
variable {he : Nat → Bool} {pu : List Nat} {pr : Nat} {vw C : List Nat} {re : Nat}
theorem elF_iff {x : Nat} : elF he pu re x = true ↔ he x = true ∧ x ≠ re ∧ pu.contains x = true := by
  simp only [elF, Bool.and_eq_true, Bool.not_eq_true', beq_eq_false_iff_ne]
theorem showF_pre (ot : Option Nat) : ∃ t, showF he pu pr vw re ot = vw ++ t := by
  cases ot with
  | none => exact ⟨[], (List.append_nil _).symm⟩
  | some j =>
    simp only [showF]
    split
    · exact ⟨[j], rfl⟩
    · exact ⟨[], (List.append_nil _).symm⟩
theorem showF_pl (ot : Option Nat) (h : vw.length ≤ pr) : (showF he pu pr vw re ot).length ≤ pr := by
  cases ot with
  | none => exact h
  | some j =>
    simp only [showF]
    split
    · next c =>
      simp only [Bool.and_eq_true, decide_eq_true_eq] at c
      have c2 := c.2.2.2.1
      simp only [List.length_append, List.length_cons, List.length_nil]
      omega
    · exact h
theorem vI_pre : ∀ i, ∃ t, vI he pu pr re C vw i = vw ++ t
  | 0 => ⟨[], (List.append_nil _).symm⟩
  | i + 1 => by
    obtain ⟨t, ht⟩ := vI_pre i
    obtain ⟨t2, ht2⟩ := showF_pre (he := he) (pu := pu) (pr := pr) (vw := vI he pu pr re C vw i) (re := re) (some (C.getD i 0))
    exact ⟨t ++ t2, by
      show showF he pu pr (vI he pu pr re C vw i) re (some (C.getD i 0)) = _
      rw [ht2, ht, List.append_assoc]⟩
theorem vI_pl (h : vw.length ≤ pr) : ∀ i, (vI he pu pr re C vw i).length ≤ pr
  | 0 => h
  | i + 1 => showF_pl _ (vI_pl h i)
theorem showF_in {j : Nat} (h : elF he pu re j = true) : j ∈ showF he pu pr vw re (some j) ∨ pr ≤ (showF he pu pr vw re (some j)).length := by
  obtain ⟨h0, h1, h2⟩ := elF_iff.mp h
  cases c : vw.contains j with
  | true =>
    left
    obtain ⟨t, ht⟩ := showF_pre (he := he) (pu := pu) (pr := pr) (vw := vw) (re := re) (some j)
    rw [ht]
    exact List.mem_append_left _ (List.contains_iff_mem.mp c)
  | false =>
    by_cases d : vw.length < pr
    · left
      rw [showF_y h0 (fun q => h1 (Option.some.inj q)) h2 d c]
      exact List.mem_append_right _ (List.mem_singleton.mpr rfl)
    · right
      obtain ⟨t, ht⟩ := showF_pre (he := he) (pu := pu) (pr := pr) (vw := vw) (re := re) (some j)
      rw [ht, List.length_append]
      omega
theorem vI_full : ∀ i, ∀ k, k < i → elF he pu re (C.getD k 0) = true → C.getD k 0 ∈ vI he pu pr re C vw i ∨ pr ≤ (vI he pu pr re C vw i).length
  | 0, k, hk, _ => absurd hk (Nat.not_lt_zero _)
  | i + 1, k, hk, he9 => by
    show C.getD k 0 ∈ showF he pu pr (vI he pu pr re C vw i) re (some (C.getD i 0)) ∨ pr ≤ (showF he pu pr (vI he pu pr re C vw i) re (some (C.getD i 0))).length
    by_cases e : k = i
    · subst e
      exact showF_in he9
    · obtain ⟨t, ht⟩ := showF_pre (he := he) (pu := pu) (pr := pr) (vw := vI he pu pr re C vw i) (re := re) (some (C.getD i 0))
      rw [ht]
      rcases vI_full i k (by omega) he9 with q | q
      · exact Or.inl (List.mem_append_left _ q)
      · right
        rw [List.length_append]
        omega
end SE
section SL
variable {he : Nat → Bool} {pu sp : List Nat} {pr re : Nat}
theorem seen_len {po : Option Nat} (hpu : goodL pu) (hsp : goodL sp) (ho : ∀ j, po = some j → j < 6) (hin : ∀ j, pu.contains j = true → he j = true) :
    (seenF he pu pr re po sp).length = if cntB (elF he pu re) 6 < pr then cntB (elF he pu re) 6 else pr := by
  have hg : goodL (seenF he pu pr re po sp) := seenF_good hpu hsp ho
  have e1 := len_cnt 6 _ hg.1 hg.2
  have e2 : cntB (fun x => (seenF he pu pr re po sp).contains x) 6 ≤ cntB (elF he pu re) 6 := cntB_mono 6 (fun x _ hc => by
    have q := seenF_sub x (List.contains_iff_mem.mp hc)
    exact elF_iff.mpr ⟨hin x q.2, q.1, q.2⟩)
  have e3 : (seenF he pu pr re po sp).length ≤ pr := vI_pl (vI_pl (showF_pl _ (Nat.zero_le _)) _) _
  by_cases h : (seenF he pu pr re po sp).length < pr
  · have e4 : cntB (elF he pu re) 6 ≤ cntB (fun x => (seenF he pu pr re po sp).contains x) 6 := cntB_mono 6 (fun x _ hx => by
      obtain ⟨k, hk, hkx⟩ := List.mem_iff_getElem.mp (List.contains_iff_mem.mp (elF_iff.mp hx).2.2)
      have hgd : pu.getD k 0 = x := by simp [List.getD_eq_getElem?_getD, hk, hkx]
      have q := vI_full (he := he) (pu := pu) (pr := pr) (re := re) (C := pu) (vw := vI he pu pr re sp (showF he pu pr [] re po) sp.length) pu.length k hk (by rw [hgd]; exact hx)
      rw [hgd] at q
      rcases q with q | q
      · exact List.contains_iff_mem.mpr q
      · exact absurd h (Nat.not_lt.mpr q))
    split <;> omega
  · split <;> omega
theorem seen_first {j : Nat} (h0 : he j = true) (h1 : j ≠ re) (h2 : pu.contains j = true) (h3 : 0 < pr) : 0 < (seenF he pu pr re (some j) sp).length ∧ (seenF he pu pr re (some j) sp).getD 0 0 = j := by
  have e : showF he pu pr [] re (some j) = [j] := showF_y (vw := []) h0 (fun q => h1 (Option.some.inj q)) h2 h3 rfl
  obtain ⟨t, ht⟩ := vI_pre (he := he) (pu := pu) (pr := pr) (re := re) (C := sp) (vw := [j]) sp.length
  obtain ⟨t2, ht2⟩ := vI_pre (he := he) (pu := pu) (pr := pr) (re := re) (C := pu) (vw := vI he pu pr re sp [j] sp.length) pu.length
  have q : seenF he pu pr re (some j) sp = j :: (t ++ t2) := by
    unfold seenF
    rw [e, ht2, ht]
    rfl
  rw [q]
  exact ⟨Nat.succ_pos _, rfl⟩
end SL
/-! sums -/
def sumN (f : Nat → Nat) : Nat → Nat
  | 0 => 0
  | n + 1 => sumN f n + f n
theorem sumN_cg {f g : Nat → Nat} : ∀ n, (∀ k, k < n → f k = g k) → sumN f n = sumN g n
  | 0, _ => rfl
  | n + 1, h => by
    show sumN f n + f n = sumN g n + g n
    rw [sumN_cg n (fun x hx => h x (Nat.lt_succ_of_lt hx)), h n (Nat.lt_succ_self n)]
theorem sumN_le {f g : Nat → Nat} : ∀ n, (∀ k, k < n → f k ≤ g k) → sumN f n ≤ sumN g n
  | 0, _ => Nat.le_refl 0
  | n + 1, h => Nat.add_le_add (sumN_le n (fun x hx => h x (Nat.lt_succ_of_lt hx))) (h n (Nat.lt_succ_self n))
theorem sumN_mono (f : Nat → Nat) (n : Nat) : ∀ d, sumN f n ≤ sumN f (n + d)
  | 0 => Nat.le_refl _
  | d + 1 => Nat.le_trans (sumN_mono f n d) (Nat.le_add_right _ _)
theorem sumN_up {f g : Nat → Nat} {o : Nat} : ∀ n, o < n → (∀ k, k ≠ o → g k = f k) → sumN g n + f o = sumN f n + g o
  | 0, h, _ => absurd h (Nat.not_lt_zero _)
  | n + 1, h, hk => by
    show sumN g n + g n + f o = sumN f n + f n + g o
    by_cases e : o = n
    · subst e
      have h1 : sumN g o = sumN f o := sumN_cg o (fun k hk2 => hk k (by omega))
      omega
    · have h1 := sumN_up n (by omega) hk
      have h2 := hk n (fun q => e q.symm)
      omega
/-! the rates of what was given, and the rest, are the estimate -/
def shV (ba se : Nat → Nat) (es : Nat) (y : sG) : Prop := sumN (fun p => rateF ba se p (y.1 p)) 6 + y.2 = es
section SV
variable {ba se : Nat → Nat} {es : Nat} {y : sG}
theorem rate_0 (p : Nat) : rateF ba se p 0 = 0 := rfl
theorem rate_1 (p : Nat) : rateF ba se p 1 = ba p := by
  show ba p + 0 * se p = ba p
  rw [Nat.zero_mul, Nat.add_zero]
theorem rate_s {p k : Nat} (hk : k ≠ 0) : rateF ba se p (k + 1) = rateF ba se p k + se p := by
  obtain ⟨d, rfl⟩ := Nat.exists_eq_succ_of_ne_zero hk
  show ba p + (d + 1) * se p = ba p + d * se p + se p
  rw [Nat.succ_mul, Nat.add_assoc]
theorem rate_mono {p y z : Nat} (h : y ≤ z) : rateF ba se p y ≤ rateF ba se p z := by
  unfold rateF
  split
  · exact Nat.zero_le _
  · rw [if_neg (by omega)]
    exact Nat.add_le_add_left (Nat.mul_le_mul_right _ (by omega)) _
theorem st1_V {o : Nat} (ho : o < 6) (h : shV ba se es y) : shV ba se es (st1 ba y o) := by
  show sumN (fun p => rateF ba se p (g1F ba y.1 y.2 o p)) 6 + r1F ba y.1 y.2 o = es
  cases c : b1F ba y.1 y.2 o with
  | false => rw [g1_n c, r1_n c]; exact h
  | true =>
    rw [g1_y c, r1_y c]
    have c2 : y.1 o = 0 ∧ ba o ≤ y.2 := of_decide_eq_true c
    have u := sumN_up (f := fun p => rateF ba se p (y.1 p)) (g := fun p => rateF ba se p (va_up y.1 o 1 p)) 6 ho (fun k hk => by
      show rateF ba se k (va_up y.1 o 1 k) = rateF ba se k (y.1 k)
      rw [va_up_ne _ _ hk])
    have h1 : rateF ba se o (y.1 o) = 0 := by rw [c2.1]; rfl
    have h2 : rateF ba se o (va_up y.1 o 1 o) = ba o := by rw [up_app, if_pos rfl, rate_1]
    have u2 : sumN (fun p => rateF ba se p (va_up y.1 o 1 p)) 6 + rateF ba se o (y.1 o) = sumN (fun p => rateF ba se p (y.1 p)) 6 + rateF ba se o (va_up y.1 o 1 o) := u
    rw [h1, h2] at u2
    have h3 : sumN (fun p => rateF ba se p (y.1 p)) 6 + y.2 = es := h
    have h4 := c2.2
    omega
theorem st2_V {o : Nat} (ho : o < 6) (h : shV ba se es y) : shV ba se es (st2 se y o) := by
  show sumN (fun p => rateF ba se p (g2F se y.1 y.2 o p)) 6 + r2F se y.1 y.2 o = es
  cases c : b2F se y.1 y.2 o with
  | false => rw [g2_n c, r2_n c]; exact h
  | true =>
    rw [g2_y c, r2_y c]
    have c2 : y.1 o ≠ 0 ∧ y.1 o < 3 ∧ se o ≤ y.2 := of_decide_eq_true c
    have u2 : sumN (fun p => rateF ba se p (va_up y.1 o (y.1 o + 1) p)) 6 + rateF ba se o (y.1 o) = sumN (fun p => rateF ba se p (y.1 p)) 6 + rateF ba se o (va_up y.1 o (y.1 o + 1) o) :=
      sumN_up (f := fun p => rateF ba se p (y.1 p)) (g := fun p => rateF ba se p (va_up y.1 o (y.1 o + 1) p)) 6 ho (fun k hk => by
        show rateF ba se k (va_up y.1 o (y.1 o + 1) k) = rateF ba se k (y.1 k)
        rw [va_up_ne _ _ hk])
    have h2 : rateF ba se o (va_up y.1 o (y.1 o + 1) o) = rateF ba se o (y.1 o) + se o := by rw [up_app, if_pos rfl, rate_s c2.1]
    rw [h2] at u2
    have h3 : sumN (fun p => rateF ba se p (y.1 p)) 6 + y.2 = es := h
    have h4 := c2.2.2
    omega
theorem sh1_V {L : List Nat} (hL : ∀ x ∈ L, x < 6) (h : shV ba se es y) : ∀ i, i ≤ L.length → shV ba se es (sh1 ba L y i)
  | 0, _ => h
  | i + 1, hi => st1_V (hL _ (getD_in (by omega))) (sh1_V hL h i (by omega))
theorem sh2_V {L : List Nat} (hL : ∀ x ∈ L, x < 6) (h : shV ba se es y) : ∀ i, i ≤ L.length → shV ba se es (sh2 se L y i)
  | 0, _ => h
  | i + 1, hi => st2_V (hL _ (getD_in (by omega))) (st2_V (hL _ (getD_in (by omega))) (sh2_V hL h i (by omega)))
end SV
section ST
variable {he : Nat → Bool} {pu sp : List Nat} {pl es ba se : Nat → Nat} {pn : Nat → Option Nat} {re : Nat}
theorem tg_sum (hpu : goodL pu) (hsp : goodL sp) (hpn : ∀ r j, pn r = some j → j < 6) : sumN (fun p => rateF ba se p (tgF he pu pl pn sp ba se es re p)) 6 ≤ es re := by
  have hg : goodL (seenF he pu (pl re) re (pn re) sp) := seenF_good hpu hsp (hpn re)
  have h0 : shV ba se (es re) (fun _ => 0, es re) := by
    show 0 + 0 + 0 + 0 + 0 + 0 + 0 + es re = es re
    omega
  have h1 : shV ba se (es re) (shF ba se (seenF he pu (pl re) re (pn re) sp) (fun _ => 0, es re)) := sh2_V hg.2 (sh1_V hg.2 h0 _ (Nat.le_refl _)) _ (Nat.le_refl _)
  have h2 : sumN (fun p => rateF ba se p (tgF he pu pl pn sp ba se es re p)) 6 + (shF ba se (seenF he pu (pl re) re (pn re) sp) (fun _ => 0, es re)).2 = es re := h1
  omega
theorem tgF_out {o : Nat} (h : o ∉ seenF he pu (pl re) re (pn re) sp) : tgF he pu pl pn sp ba se es re o = 0 := by
  have hn : ∀ j, j < (seenF he pu (pl re) re (pn re) sp).length → (seenF he pu (pl re) re (pn re) sp).getD j 0 ≠ o := fun j hj q => h (q ▸ getD_in hj)
  unfold tgF shF
  rw [sh2_out _ hn, sh1_out _ hn]
theorem sent_sum (la : Nat → Nat → Nat) : ∀ n, sentI la ba se re n = sumN (fun p => rateF ba se p (la re p)) n
  | 0 => rfl
  | n + 1 => by
    show sentI la ba se re n + rateF ba se n (la re n) = sumN (fun p => rateF ba se p (la re p)) n + rateF ba se n (la re n)
    rw [sent_sum la n]
theorem sent_le {la : Nat → Nat → Nat} (hpu : goodL pu) (hsp : goodL sp) (hpn : ∀ r j, pn r = some j → j < 6) (h : ∀ p, p < 6 → la re p ≤ tgF he pu pl pn sp ba se es re p) : sentI la ba se re 6 ≤ es re := by
  rw [sent_sum]
  exact Nat.le_trans (sumN_le 6 (fun p hp => rate_mono (h p hp))) (tg_sum hpu hsp hpn)
end ST
/-! behind a second no layer is above its target -/
theorem low_ta {la ta : Nat → Nat → Nat} : ∀ a o, a < 6 → o < 6 → lowF la ta 6 0 a o ≤ ta a o := by
  intro a o ha ho
  unfold lowF
  rw [if_pos (Or.inl ⟨ha, ho⟩)]
  exact Nat.min_le_right _ _
theorem mk_ta {ta : Nat → Nat → Nat} {li ck : Nat} {y : mS} (h : ∀ a o, a < 6 → o < 6 → y.2.2.2.1 a o ≤ ta a o) : ∀ i a o, a < 6 → o < 6 → (mkI ta li ck y i).2.2.2.1 a o ≤ ta a o
  | 0 => h
  | i + 1 => by
    intro a o ha ho
    have h1 := mk_ta (li := li) (ck := ck) h i a o ha ho
    simp only [mkI]
    split
    · show swF (mkI ta li ck y i).2.2.2.1 ta i 6 a o ≤ ta a o
      unfold swF
      split
      · exact Nat.le_refl _
      · exact h1
    · exact h1
/-! the set of those that were seen, as bits -/
def bitF (m p : Nat) : Nat := m / 2 ^ p % 2
def orF (m p : Nat) : Nat := m ||| 2 ^ p
theorem bit_sh : ∀ m : Fin 64, ∀ p : Fin 6, ((nI m.1 >>> (nI p.1 &&& 31)) &&& nI 1) = nI (bitF m.1 p.1) := by decide +kernel
theorem or_sh : ∀ m : Fin 64, ∀ p : Fin 6, (nI m.1 ||| (nI 1 <<< (nI p.1 &&& 31))) = nI (orF m.1 p.1) := by decide +kernel
theorem or_64 : ∀ m : Fin 64, ∀ p : Fin 6, orF m.1 p.1 < 64 := by decide +kernel
theorem or_bit : ∀ m : Fin 64, ∀ p q : Fin 6, bitF (orF m.1 p.1) q.1 = if q = p then 1 else bitF m.1 q.1 := by decide +kernel
def setB (S : List Nat) : Nat → Nat
  | 0 => 0
  | k + 1 => orF (setB S k) (S.getD k 0)
theorem setB_64 {S : List Nat} (h : ∀ x ∈ S, x < 6) : ∀ k, k ≤ S.length → setB S k < 64
  | 0, _ => (by decide : (0 : Nat) < 64)
  | k + 1, hk => or_64 ⟨_, setB_64 h k (by omega)⟩ ⟨_, h _ (getD_in (by omega : k < S.length))⟩
theorem setB_bit {S : List Nat} (h : ∀ x ∈ S, x < 6) {q : Nat} (hq : q < 6) : ∀ k, k ≤ S.length → bitF (setB S k) q = if q ∈ S.take k then 1 else 0
  | 0, _ => by
    rw [List.take_zero, if_neg (by simp)]
    show 0 / 2 ^ q % 2 = 0
    rw [Nat.zero_div]
  | k + 1, hk => by
    have hk2 : k < S.length := hk
    have e := or_bit ⟨_, setB_64 h k (by omega)⟩ ⟨_, h _ (getD_in hk2)⟩ ⟨q, hq⟩
    have e2 : bitF (setB S (k + 1)) q = if q = S.getD k 0 then 1 else bitF (setB S k) q := by
      rw [show bitF (setB S (k + 1)) q = bitF (orF (setB S k) (S.getD k 0)) q from rfl, e]
      by_cases c : q = S.getD k 0
      · rw [if_pos c, if_pos (Fin.ext c)]
      · rw [if_neg c, if_neg (fun q => c (Fin.mk.inj q))]
    rw [e2, setB_bit h hq k (by omega), take_s hk2]
    by_cases c : q = S.getD k 0
    · rw [if_pos c, if_pos (List.mem_append_right _ (List.mem_singleton.mpr c))]
    · rw [if_neg c]
      by_cases d : q ∈ S.take k
      · rw [if_pos d, if_pos (List.mem_append_left _ d)]
      · rw [if_neg d, if_neg (fun z => by
          rcases List.mem_append.mp z with z | z
          · exact d z
          · exact c (List.mem_singleton.mp z))]
theorem bit_new {S : List Nat} (hg : goodL S) {k : Nat} (hk : k < S.length) : bitF (setB S k) (S.getD k 0) = 0 := by
  rw [setB_bit hg.2 (hg.2 _ (getD_in hk)) k (by omega), if_neg]
  intro q
  obtain ⟨j, hj, e⟩ := List.mem_iff_getElem.mp q
  rw [List.length_take] at hj
  have hj2 : j < k := by omega
  rw [List.getElem_take] at e
  have hjs : j < S.length := by omega
  have e3 : S.getD j 0 = S[j]'hjs := by simp [List.getD_eq_getElem?_getD, hjs]
  exact absurd (e3.trans e) (nodup_getD hg.1 hj2 hk)
theorem bit_all {S : List Nat} (hg : goodL S) {q : Nat} (hq : q < 6) (h : q ∈ S) : bitF (setB S S.length) q = 1 := by
  rw [setB_bit hg.2 hq _ (Nat.le_refl _), List.take_length, if_pos h]
/-! the law's own numbers -/
theorem low_of (v : Int32) {n : Nat} (h0 : 0 < n) (hn : n < 1000) : ∃ j, j < n ∧ (v &&& (2147483647 : Int32)) - (v &&& (2147483647 : Int32)) / nI n * nI n = nI j := by
  obtain ⟨k, hk, e⟩ := pk_andE v (m := (2147483647 : Int32)) 31 (by decide)
  rw [e, pk_rem hk h0 (by omega)]
  exact ⟨k % n, Nat.mod_lt _ h0, rfl⟩
