/-! what a receiver sees, its targets, and a second, as functions -/
def showF (he : Nat → Bool) (pu : List Nat) (pr : Nat) (vw : List Nat) (re : Nat) (ot : Option Nat) : List Nat := match ot with
  | none => vw
  | some j => if he j && (!(j == re) && (pu.contains j && (decide (vw.length < pr) && !vw.contains j))) then vw ++ [j] else vw
theorem showF_n0 {he : Nat → Bool} {pu : List Nat} {pr : Nat} {vw : List Nat} {re : Nat} {ot : Option Nat} (h : isP he (oI ot) = false) (ho : ∀ j, ot = some j → j < 6) : showF he pu pr vw re ot = vw := by
  cases ot with
  | none => rfl
  | some j =>
    have h2 : isP he (nI j) = false := h
    rw [isP_nI (ho j rfl)] at h2
    simp [showF, h2]
theorem isP_O {he : Nat → Bool} {ot : Option Nat} (h : isP he (oI ot) = true) (ho : ∀ j, ot = some j → j < 6) : ∃ j, j < 6 ∧ ot = some j ∧ he j = true := by
  cases ot with
  | none =>
    obtain ⟨j, hj, e, -⟩ := isP_of h
    exact absurd e.symm (fun q => by
      have h2 : (nI j) < 0 := by rw [q]; decide
      exact absurd h2 (nI_pos (by omega)))
  | some j =>
    have h2 : isP he (nI j) = true := h
    rw [isP_nI (ho j rfl)] at h2
    exact ⟨j, ho j rfl, rfl, h2⟩
section SH
variable {he : Nat → Bool} {pu : List Nat} {pr : Nat} {vw : List Nat} {re jo : Nat}
theorem showF_n1 (h : some jo = some re) : showF he pu pr vw re (some jo) = vw := by
  cases h
  simp [showF]
theorem showF_n2 (h : pu.contains jo = false) : showF he pu pr vw re (some jo) = vw := by
  simp only [showF]
  rw [h]
  simp
theorem showF_n3 (h : pr ≤ vw.length) : showF he pu pr vw re (some jo) = vw := by
  have h2 : decide (vw.length < pr) = false := by simp; omega
  simp only [showF]
  rw [h2]
  simp
theorem showF_n4 (h : vw.contains jo = true) : showF he pu pr vw re (some jo) = vw := by
  simp only [showF]
  rw [h]
  simp
theorem showF_y (h0 : he jo = true) (h1 : some jo ≠ some re) (h2 : pu.contains jo = true) (h3 : vw.length < pr) (h4 : vw.contains jo = false) : showF he pu pr vw re (some jo) = vw ++ [jo] := by
  have e1 : (jo == re) = false := by
    simp only [beq_eq_false_iff_ne]
    exact fun q => h1 (by rw [q])
  have e2 : decide (vw.length < pr) = true := by simp [h3]
  simp only [showF]
  rw [h0, e1, h2, e2, h4]
  rfl
theorem showF_y2 (h0 : he jo = true) (h1 : some jo ≠ some re) (h2 : pu.contains jo = true) (h3 : vw.length < pr) : showF he pu pr vw re (some jo) = putL vw jo := by
  cases h4 : vw.contains jo with
  | true => rw [showF_n4 h4, putL_yes h4]
  | false => rw [showF_y h0 h1 h2 h3 h4, putL_no h4]
end SH
theorem drop_no {L : List Nat} {j : Nat} (h : L.contains j = false) : dropL L j = L := by
  unfold dropL
  rw [List.filter_eq_self]
  intro a ha
  simp only [bne_iff_ne, ne_eq]
  intro e
  subst e
  simp at h
  exact h ha
theorem showF_good {he : Nat → Bool} {pu : List Nat} {pr : Nat} {vw : List Nat} {re : Nat} {ot : Option Nat} (hg : goodL vw) (ho : ∀ j, ot = some j → j < 6) : goodL (showF he pu pr vw re ot) := by
  cases ot with
  | none => exact hg
  | some j =>
    simp only [showF]
    split
    · rename_i q
      simp only [Bool.and_eq_true, Bool.not_eq_true', decide_eq_true_eq] at q
      have hn : j ∉ vw := by
        have := q.2.2.2.2
        simpa using this
      refine ⟨?_, ?_⟩
      · rw [List.nodup_append]
        exact ⟨hg.1, by simp, fun a ha b hb => by
          rw [List.mem_singleton.mp hb]
          exact fun e => hn (e ▸ ha)⟩
      · intro x hx
        rcases List.mem_append.mp hx with q | q
        · exact hg.2 x q
        · rw [List.mem_singleton.mp q]; exact ho j rfl
    · exact hg
def vI (he : Nat → Bool) (pu : List Nat) (pr re : Nat) (C vw : List Nat) : Nat → List Nat
  | 0 => vw
  | i + 1 => showF he pu pr (vI he pu pr re C vw i) re (some (C.getD i 0))
theorem vI_good {he : Nat → Bool} {pu : List Nat} {pr re : Nat} {C vw : List Nat} (hC : goodL C) (hg : goodL vw) : ∀ i, i ≤ C.length → goodL (vI he pu pr re C vw i)
  | 0, _ => hg
  | i + 1, h => showF_good (vI_good hC hg i (by omega)) (fun j hj => by
      cases hj
      exact hC.2 _ (getD_in (by omega)))
def seenF (he : Nat → Bool) (pu : List Nat) (pr re : Nat) (po : Option Nat) (sp : List Nat) : List Nat := vI he pu pr re pu (vI he pu pr re sp (showF he pu pr [] re po) sp.length) pu.length
theorem seenF_good {he : Nat → Bool} {pu : List Nat} {pr re : Nat} {po : Option Nat} {sp : List Nat} (hpu : goodL pu) (hsp : goodL sp) (ho : ∀ j, po = some j → j < 6) : goodL (seenF he pu pr re po sp) :=
  vI_good hpu (vI_good hsp (showF_good goodL.nil ho) _ (Nat.le_refl _)) _ (Nat.le_refl _)
def ag6 (y z : sG) : Prop := (∀ j, j < 6 → y.1 j = z.1 j) ∧ y.2 = z.2
theorem st1_ag {ba : Nat → Nat} {y z : sG} (h : ag6 y z) {o : Nat} (ho : o < 6) : ag6 (st1 ba y o) (st1 ba z o) := by
  obtain ⟨h1, h2⟩ := h
  have e : b1F ba y.1 y.2 o = b1F ba z.1 z.2 o := by unfold b1F; rw [h1 o ho, h2]
  refine ⟨fun j hj => ?_, ?_⟩
  · show g1F ba y.1 y.2 o j = g1F ba z.1 z.2 o j
    unfold g1F
    rw [e]
    split
    · simp only [up_app, h1 j hj]
    · exact h1 j hj
  · show r1F ba y.1 y.2 o = r1F ba z.1 z.2 o
    unfold r1F
    rw [e, h2]
theorem st2_ag {se : Nat → Nat} {y z : sG} (h : ag6 y z) {o : Nat} (ho : o < 6) : ag6 (st2 se y o) (st2 se z o) := by
  obtain ⟨h1, h2⟩ := h
  have e : b2F se y.1 y.2 o = b2F se z.1 z.2 o := by unfold b2F; rw [h1 o ho, h2]
  refine ⟨fun j hj => ?_, ?_⟩
  · show g2F se y.1 y.2 o j = g2F se z.1 z.2 o j
    unfold g2F
    rw [e]
    split
    · simp only [up_app, h1 j hj, h1 o ho]
    · exact h1 j hj
  · show r2F se y.1 y.2 o = r2F se z.1 z.2 o
    unfold r2F
    rw [e, h2]
theorem sh1_ag {ba : Nat → Nat} {L : List Nat} (hL : ∀ x ∈ L, x < 6) {y z : sG} (h : ag6 y z) : ∀ i, i ≤ L.length → ag6 (sh1 ba L y i) (sh1 ba L z i)
  | 0, _ => h
  | i + 1, hi => st1_ag (sh1_ag hL h i (by omega)) (hL _ (getD_in (by omega)))
theorem sh2_ag {se : Nat → Nat} {L : List Nat} (hL : ∀ x ∈ L, x < 6) {y z : sG} (h : ag6 y z) : ∀ i, i ≤ L.length → ag6 (sh2 se L y i) (sh2 se L z i)
  | 0, _ => h
  | i + 1, hi => st2_ag (st2_ag (sh2_ag hL h i (by omega)) (hL _ (getD_in (by omega)))) (hL _ (getD_in (by omega)))
theorem shF_ag {ba se : Nat → Nat} {L : List Nat} (hL : ∀ x ∈ L, x < 6) {y z : sG} (h : ag6 y z) : ag6 (shF ba se L y) (shF ba se L z) := sh2_ag hL (sh1_ag hL h _ (Nat.le_refl _)) _ (Nat.le_refl _)
theorem zero_ag (gi : Nat → Nat) (k : Nat) : ag6 (zeroF gi 6, k) (fun _ => 0, k) := ⟨fun j hj => by simp [zeroF, hj], rfl⟩
def tgF (he : Nat → Bool) (pu : List Nat) (pl : Nat → Nat) (pn : Nat → Option Nat) (sp : List Nat) (ba se es : Nat → Nat) (re : Nat) : Nat → Nat := (shF ba se (seenF he pu (pl re) re (pn re) sp) (fun _ => 0, es re)).1
theorem setF_cg {ta : Nat → Nat → Nat} {f g : Nat → Nat} {re : Nat} (h : ∀ j, j < 6 → f j = g j) : setF ta f re 6 = setF ta g re 6 := by
  funext a o
  simp only [setF]
  split
  · rename_i q
    exact h o q.2
  · rfl
def tgI (he : Nat → Bool) (pu : List Nat) (pl : Nat → Nat) (pn : Nat → Option Nat) (sp : List Nat) (ba se es : Nat → Nat) (ta : Nat → Nat → Nat) : Nat → Nat → Nat → Nat
  | 0 => ta
  | i + 1 => if he i then setF (tgI he pu pl pn sp ba se es ta i) (tgF he pu pl pn sp ba se es i) i 6 else tgI he pu pl pn sp ba se es ta i
theorem tgI_no {he : Nat → Bool} {pu : List Nat} {pl : Nat → Nat} {pn : Nat → Option Nat} {sp : List Nat} {ba se es : Nat → Nat} {ta : Nat → Nat → Nat} {i : Nat} (h : he i = false) : tgI he pu pl pn sp ba se es ta i = tgI he pu pl pn sp ba se es ta (i + 1) := by simp [tgI, h]
theorem tgI_yes {he : Nat → Bool} {pu : List Nat} {pl : Nat → Nat} {pn : Nat → Option Nat} {sp : List Nat} {ba se es : Nat → Nat} {ta : Nat → Nat → Nat} {i : Nat} {gi : Nat → Nat} (h : he i = true) (hg : goodL (seenF he pu (pl i) i (pn i) sp)) : setF (tgI he pu pl pn sp ba se es ta i) (shF ba se (seenF he pu (pl i) i (pn i) sp) (zeroF gi 6, es i)).1 i 6 = tgI he pu pl pn sp ba se es ta (i + 1) := by
  have e : tgI he pu pl pn sp ba se es ta (i + 1) = setF (tgI he pu pl pn sp ba se es ta i) (tgF he pu pl pn sp ba se es i) i 6 := by simp [tgI, h]
  rw [e]
  exact setF_cg (shF_ag hg.2 (zero_ag gi (es i))).1
def askI (la ta : Nat → Nat → Nat) (ak : Nat → Bool) (i : Nat) : Nat → Bool := fun x => ak x || (decide (x < i) && wantI la ta x 6)
theorem askI_0 (la ta : Nat → Nat → Nat) (ak : Nat → Bool) : ak = askI la ta ak 0 := by funext x; simp [askI]
theorem askI_no {la ta : Nat → Nat → Nat} {ak : Nat → Bool} {i : Nat} (h : wantI la ta i 6 = false) : askI la ta ak i = askI la ta ak (i + 1) := by
  funext x
  simp only [askI]
  by_cases e : x = i
  · subst e
    simp [h]
  · have : (x < i) = (x < i + 1) := by simp only [eq_iff_iff]; omega
    simp only [this]
theorem askI_yes {la ta : Nat → Nat → Nat} {ak : Nat → Bool} {i : Nat} (h : wantI la ta i 6 = true) : va_up (askI la ta ak i) i true = askI la ta ak (i + 1) := by
  funext x
  rw [up_app]
  simp only [askI]
  by_cases e : x = i
  · subst e
    simp [h]
  · have : (x < i) = (x < i + 1) := by simp only [eq_iff_iff]; omega
    simp only [this, if_neg e]
abbrev mS : Type := (Nat → Nat) × (Nat → Bool) × (Nat → Nat) × (Nat → Nat → Nat) × Nat
def mkI (ta : Nat → Nat → Nat) (li ck : Nat) (y : mS) : Nat → mS
  | 0 => y
  | i + 1 => if canF (mkI ta li ck y i).2.1 (mkI ta li ck y i).1 (mkI ta li ck y i).2.2.1 li i ck then
      (va_up (mkI ta li ck y i).1 i ((mkI ta li ck y i).1 i + 1), va_up (mkI ta li ck y i).2.1 i false, va_up (mkI ta li ck y i).2.2.1 i ck, swF (mkI ta li ck y i).2.2.2.1 ta i 6, (mkI ta li ck y i).2.2.2.2 + 1)
    else mkI ta li ck y i
theorem mkI_no {ta : Nat → Nat → Nat} {li ck : Nat} {y : mS} {i : Nat} {kc : Nat → Nat} {ak : Nat → Bool} {lk : Nat → Nat} {la : Nat → Nat → Nat} {nm : Nat} (h : mkI ta li ck y i = (kc, ak, lk, la, nm)) (hc : canF ak kc lk li i ck = false) : mkI ta li ck y (i + 1) = (kc, ak, lk, la, nm) := by
  simp only [mkI]
  rw [h]
  simp only
  rw [hc]
  rfl
theorem mkI_yes {ta : Nat → Nat → Nat} {li ck : Nat} {y : mS} {i : Nat} {kc : Nat → Nat} {ak : Nat → Bool} {lk : Nat → Nat} {la : Nat → Nat → Nat} {nm : Nat} (h : mkI ta li ck y i = (kc, ak, lk, la, nm)) (hc : canF ak kc lk li i ck = true) : mkI ta li ck y (i + 1) = (va_up kc i (kc i + 1), va_up ak i false, va_up lk i ck, swF la ta i 6, nm + 1) := by
  simp only [mkI]
  rw [h]
  simp only
  rw [hc]
  rfl
theorem mkI_kc {ta : Nat → Nat → Nat} {li ck : Nat} {y : mS} (h : ∀ k, y.1 k + 1 ≤ ck) : ∀ i k, (mkI ta li ck y i).1 k ≤ ck ∧ (i ≤ k → (mkI ta li ck y i).1 k + 1 ≤ ck)
  | 0, k => ⟨Nat.le_of_succ_le (h k), fun _ => h k⟩
  | i + 1, k => by
    have h1 := mkI_kc (ta := ta) (li := li) h i
    simp only [mkI]
    split
    · simp only [up_app]
      have h2 := h1 i
      have h3 := h1 k
      by_cases e : k = i
      · subst e
        simp only [if_true]
        exact ⟨h2.2 (Nat.le_refl _), fun q => by omega⟩
      · simp only [if_neg e]
        exact ⟨h3.1, fun q => h3.2 (by omega)⟩
    · exact ⟨(h1 k).1, fun q => (h1 k).2 (by omega)⟩
theorem mkI_lk {ta : Nat → Nat → Nat} {li ck : Nat} {y : mS} (h : ∀ k, y.2.2.1 k ≤ ck) : ∀ i k, (mkI ta li ck y i).2.2.1 k ≤ ck
  | 0, k => h k
  | i + 1, k => by
    have h1 := mkI_lk (ta := ta) (li := li) h i k
    simp only [mkI]
    split
    · simp only [up_app]
      split
      · exact Nat.le_refl _
      · exact h1
    · exact h1
theorem mkI_nm {ta : Nat → Nat → Nat} {li ck : Nat} {y : mS} : ∀ i, (mkI ta li ck y i).2.2.2.2 ≤ y.2.2.2.2 + i
  | 0 => Nat.le_refl _
  | i + 1 => by
    have h1 := mkI_nm (ta := ta) (li := li) (ck := ck) (y := y) i
    simp only [mkI]
    split
    · show (mkI ta li ck y i).2.2.2.2 + 1 ≤ _
      omega
    · omega
/-- what a second changes: the speaker, the loudest, its seconds, who spoke, targets, layers, keys, asked, last keys, the time -/
abbrev sS : Type := Option Nat × Option Nat × Nat × List Nat × (Nat → Nat → Nat) × (Nat → Nat → Nat) × (Nat → Nat) × (Nat → Bool) × (Nat → Nat) × Nat
def secM (he mu : Nat → Bool) (lv pl es : Nat → Nat) (pn : Nat → Option Nat) (pu : List Nat) (ba se : Nat → Nat) (ho li : Nat) (lo : Option Nat) (ls : Nat) (sp : List Nat) (ta la : Nat → Nat → Nat) (kc : Nat → Nat) (ak : Nat → Bool) (lk : Nat → Nat) (ck : Nat) : mS :=
  mkI (tgI he pu pl pn (spF (loudF he mu lv) lo ls ho sp) ba se es ta 6) li (ck + 1) (kc, askI (lowF la (tgI he pu pl pn (spF (loudF he mu lv) lo ls ho sp) ba se es ta 6) 6 0) (tgI he pu pl pn (spF (loudF he mu lv) lo ls ho sp) ba se es ta 6) ak 6, lk, lowF la (tgI he pu pl pn (spF (loudF he mu lv) lo ls ho sp) ba se es ta 6) 6 0, 0) 6
theorem tgF_3 (he : Nat → Bool) (pu : List Nat) (pl : Nat → Nat) (pn : Nat → Option Nat) (sp : List Nat) (ba se es : Nat → Nat) (re : Nat) (hg : ∀ x ∈ seenF he pu (pl re) re (pn re) sp, x < 6) : ∀ k, k < 6 → tgF he pu pl pn sp ba se es re k ≤ 3 := by
  have h1 : ∀ i, ∀ k, k < 6 → (sh1 ba (seenF he pu (pl re) re (pn re) sp) (fun _ => 0, es re) i).1 k ≤ 3 := by
    intro i
    induction i with
    | zero => intro k _; exact Nat.zero_le _
    | succ i ih => exact g1_le ih _
  have h2 : ∀ i, ∀ k, k < 6 → (sh2 se (seenF he pu (pl re) re (pn re) sp) (sh1 ba (seenF he pu (pl re) re (pn re) sp) (fun _ => 0, es re) (seenF he pu (pl re) re (pn re) sp).length) i).1 k ≤ 3 := by
    intro i
    induction i with
    | zero => exact h1 _
    | succ i ih => exact g2_le (g2_le ih _) _
  exact h2 _
theorem tgI_3 {he : Nat → Bool} {pu : List Nat} {pl : Nat → Nat} {pn : Nat → Option Nat} {sp : List Nat} {ba se es : Nat → Nat} {ta : Nat → Nat → Nat} (hpu : goodL pu) (hsp : goodL sp) (hpn : ∀ r j, pn r = some j → j < 6) (h : ∀ a o, a < 6 → o < 6 → ta a o ≤ 3) : ∀ i a o, a < 6 → o < 6 → tgI he pu pl pn sp ba se es ta i a o ≤ 3
  | 0, a, o, h1, h2 => h a o h1 h2
  | i + 1, a, o, h1, h2 => by
    have h3 := tgI_3 (he := he) (pl := pl) (ba := ba) (se := se) (es := es) hpu hsp hpn h i a o h1 h2
    simp only [tgI]
    split
    · simp only [setF]
      split
      · exact tgF_3 he pu pl pn sp ba se es i (seenF_good hpu hsp (hpn i)).2 o h2
      · exact h3
    · exact h3
