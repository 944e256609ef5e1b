abbrev mY : Type := (Nat → Nat) × (Nat → Bool) × (Nat → Nat) × (Nat → Nat) × Nat
def mkY (he : Nat → Bool) (T : Nat → Nat → Nat) (on : Nat → Bool) (li tm : Nat) (y : mY) : Nat → mY
  | 0 => y
  | i + 1 => if on i && canF (mkY he T on li tm y i).2.1 (mkY he T on li tm y i).1 (mkY he T on li tm y i).2.2.1 li i tm then
      (va_up (mkY he T on li tm y i).1 i ((mkY he T on li tm y i).1 i + 1), va_up (mkY he T on li tm y i).2.1 i false, va_up (mkY he T on li tm y i).2.2.1 i tm, liftY he T (mkY he T on li tm y i).2.2.2.1 i 6, (mkY he T on li tm y i).2.2.2.2 + 1)
    else mkY he T on li tm y i
section MK
variable {he : Nat → Bool} {T : Nat → Nat → Nat} {on : Nat → Bool} {li tm : Nat} {y : mY} {i : Nat} {kc : Nat → Nat} {ak : Nat → Bool} {lk ly : Nat → Nat} {nm : Nat}
theorem mkY_no (h : mkY he T on li tm y i = (kc, ak, lk, ly, nm)) (hc : (on i && canF ak kc lk li i tm) = false) : mkY he T on li tm y (i + 1) = (kc, ak, lk, ly, nm) := by
  simp only [mkY]
  rw [h]
  simp only
  rw [hc]
  rfl
theorem mkY_yes (h : mkY he T on li tm y i = (kc, ak, lk, ly, nm)) (hc : (on i && canF ak kc lk li i tm) = true) : mkY he T on li tm y (i + 1) = (va_up kc i (kc i + 1), va_up ak i false, va_up lk i tm, liftY he T ly i 6, nm + 1) := by
  simp only [mkY]
  rw [h]
  simp only
  rw [hc]
  rfl
theorem can_n1 (h : on i = false) : (on i && canF ak kc lk li i tm) = false := by rw [h]; rfl
theorem can_n2 (h : ak i = false) : (on i && canF ak kc lk li i tm) = false := by unfold canF; rw [h]; cases on i <;> rfl
theorem can_n3 (h : kc i ≠ 0) (h2 : tm - lk i ≤ li) : (on i && canF ak kc lk li i tm) = false := by
  unfold canF
  rw [decide_eq_false h, decide_eq_false (by omega)]
  cases on i <;> cases ak i <;> rfl
theorem can_y (h1 : on i = true) (h2 : ak i = true) (h3 : kc i = 0 ∨ li < tm - lk i) : (on i && canF ak kc lk li i tm) = true := by
  unfold canF
  rw [h1, h2]
  rcases h3 with h | h
  · rw [decide_eq_true h]; rfl
  · rw [decide_eq_true h]; cases decide (kc i = 0) <;> rfl
theorem mkY_kc (h : ∀ k, y.1 k + 1 ≤ tm) : ∀ i k, (mkY he T on li tm y i).1 k ≤ tm ∧ (i ≤ k → (mkY he T on li tm y i).1 k + 1 ≤ tm)
  | 0, k => ⟨Nat.le_of_succ_le (h k), fun _ => h k⟩
  | i + 1, k => by
    have h1 := mkY_kc h i
    simp only [mkY]
    split
    · simp only [up_app]
      have h2 := h1 i
      have h3 := h1 k
      by_cases e : k = i
      · subst e
        simp only [if_true]
        exact ⟨h2.2 (Nat.le_refl _), fun q => by omega⟩
      · simp only [if_neg e]
        exact ⟨h3.1, fun q => h3.2 (by omega)⟩
    · exact ⟨(h1 k).1, fun q => (h1 k).2 (by omega)⟩
theorem mkY_lk (h : ∀ k, y.2.2.1 k ≤ tm) : ∀ i k, (mkY he T on li tm y i).2.2.1 k ≤ tm
  | 0, k => h k
  | i + 1, k => by
    have h1 := mkY_lk h i k
    simp only [mkY]
    split
    · simp only [up_app]
      split
      · exact Nat.le_refl _
      · exact h1
    · exact h1
theorem mkY_nm : ∀ i, (mkY he T on li tm y i).2.2.2.2 ≤ y.2.2.2.2 + i
  | 0 => Nat.le_refl _
  | i + 1 => by
    have h1 := mkY_nm i
    simp only [mkY]
    split
    · show (mkY he T on li tm y i).2.2.2.2 + 1 ≤ _
      omega
    · omega
theorem liftY_3 {p k : Nat} (hT : ∀ a, p < 6 → T a p ≤ 3) (hp : p < 6) (h : ∀ q, ly q ≤ 3) : ∀ q, liftY he T ly p k q ≤ 3 := by
  intro q
  unfold liftY
  split
  · exact hT _ hp
  · exact h q
theorem mkY_3 (hT : ∀ a o, o < 6 → T a o ≤ 3) (h : ∀ q, y.2.2.2.1 q ≤ 3) : ∀ i, i ≤ 6 → ∀ q, (mkY he T on li tm y i).2.2.2.1 q ≤ 3
  | 0, _, q => h q
  | i + 1, hi, q => by
    have h1 := mkY_3 hT h i (by omega)
    simp only [mkY]
    split
    · exact liftY_3 (fun a ha => hT a i ha) (by omega) h1 q
    · exact h1 q
theorem lowY_3 {i j : Nat} (h : ∀ q, ly q ≤ 3) : ∀ q, lowY he T ly i j q ≤ 3 := by
  intro q
  unfold lowY
  split
  · exact Nat.le_trans (Nat.min_le_left _ _) (h q)
  · exact h q
end MK
def secY (he mu on : Nat → Bool) (lv pl es : Nat → Nat) (pn : Nat → Option Nat) (pu : List Nat) (ba se : Nat → Nat) (ho li : Nat) (lo : Option Nat) (rn : Nat) (sp : List Nat) (ly : Nat → Nat) (kc : Nat → Nat) (ak : Nat → Bool) (lk : Nat → Nat) (tm : Nat) : mY :=
  mkY he (tgF he pu pl pn (spF (loudF he mu lv) lo rn ho sp) ba se es) on li (tm + 1) (kc, akY he (tgF he pu pl pn (spF (loudF he mu lv) lo rn ho sp) ba se es) ly ak 6 0, lk, lowY he (tgF he pu pl pn (spF (loudF he mu lv) lo rn ho sp) ba se es) ly 6 0, 0) 6
/-- what a second of the model changes: speaker, loudest, run, who spoke, layers, keys, wanted, last keys, time -/
abbrev sY : Type := Option Nat × Option Nat × Nat × List Nat × (Nat → Nat) × (Nat → Nat) × (Nat → Bool) × (Nat → Nat) × Nat
def secYF (he mu on : Nat → Bool) (lv pl es : Nat → Nat) (pn : Nat → Option Nat) (pu : List Nat) (ba se : Nat → Nat) (ho li : Nat) (y : sY) : sY × Nat := match y with
  | (ld, lo, rn, sp, ly, kc, ak, lk, tm) => ((ldF (loudF he mu lv) lo ld rn ho, loudF he mu lv, rnF (loudF he mu lv) lo rn, spF (loudF he mu lv) lo rn ho sp, (secY he mu on lv pl es pn pu ba se ho li lo rn sp ly kc ak lk tm).2.2.2.1, (secY he mu on lv pl es pn pu ba se ho li lo rn sp ly kc ak lk tm).1, (secY he mu on lv pl es pn pu ba se ho li lo rn sp ly kc ak lk tm).2.1, (secY he mu on lv pl es pn pu ba se ho li lo rn sp ly kc ak lk tm).2.2.1, tm + 1), (secY he mu on lv pl es pn pu ba se ho li lo rn sp ly kc ak lk tm).2.2.2.2)
def itY (he mu on : Nat → Bool) (lv pl es : Nat → Nat) (pn : Nat → Option Nat) (pu : List Nat) (ba se : Nat → Nat) (ho li : Nat) (y : sY) : Nat → sY × Nat
  | 0 => (y, 0)
  | k + 1 => ((secYF he mu on lv pl es pn pu ba se ho li (itY he mu on lv pl es pn pu ba se ho li y k).1).1, (itY he mu on lv pl es pn pu ba se ho li y k).2 + (secYF he mu on lv pl es pn pu ba se ho li (itY he mu on lv pl es pn pu ba se ho li y k).1).2)
section IY
variable {he mu on : Nat → Bool} {lv pl es : Nat → Nat} {pn : Nat → Option Nat} {pu : List Nat} {ba se : Nat → Nat} {ho li : Nat} {y : sY} {k : Nat} {ld lo : Option Nat} {rn : Nat} {sp : List Nat} {ly : Nat → Nat} {kc : Nat → Nat} {ak : Nat → Bool} {lk : Nat → Nat} {tm nm : Nat}
theorem itY_t (h : itY he mu on lv pl es pn pu ba se ho li y k = ((ld, lo, rn, sp, ly, kc, ak, lk, tm), nm)) {kc9 : Nat → Nat} {ak9 : Nat → Bool} {lk9 ly9 : Nat → Nat} {nm9 : Nat} (h2 : secY he mu on lv pl es pn pu ba se ho li lo rn sp ly kc ak lk tm = (kc9, ak9, lk9, ly9, nm9)) :
    itY he mu on lv pl es pn pu ba se ho li y (k + 1) = ((ldF (loudF he mu lv) lo ld rn ho, loudF he mu lv, rnF (loudF he mu lv) lo rn, spF (loudF he mu lv) lo rn ho sp, ly9, kc9, ak9, lk9, tm + 1), nm + nm9) := by
  simp only [itY]
  rw [h]
  simp only [secYF]
  rw [h2]
theorem secY_kc (h : ∀ k, kc k ≤ tm) : ∀ k, (secY he mu on lv pl es pn pu ba se ho li lo rn sp ly kc ak lk tm).1 k ≤ tm + 1 := fun k => (mkY_kc (fun k => Nat.succ_le_succ (h k)) 6 k).1
theorem secY_lk (h : ∀ k, lk k ≤ tm) : ∀ k, (secY he mu on lv pl es pn pu ba se ho li lo rn sp ly kc ak lk tm).2.2.1 k ≤ tm + 1 := fun k => mkY_lk (fun k => Nat.le_succ_of_le (h k)) 6 k
theorem secY_nm : (secY he mu on lv pl es pn pu ba se ho li lo rn sp ly kc ak lk tm).2.2.2.2 ≤ 6 := Nat.le_trans (mkY_nm 6) (by simp)
theorem secY_3 (hT : ∀ a o, o < 6 → tgF he pu pl pn (spF (loudF he mu lv) lo rn ho sp) ba se es a o ≤ 3) (h : ∀ q, ly q ≤ 3) : ∀ q, (secY he mu on lv pl es pn pu ba se ho li lo rn sp ly kc ak lk tm).2.2.2.1 q ≤ 3 := mkY_3 hT (lowY_3 h) 6 (Nat.le_refl _)
end IY
section Q36
variable {p : Program} {l : Launch} {e : Env} {R : Room} {s : State} {m : MethodId} {args : Array Value} {below : List Frame} {meth : Method} {c : Code} {H : Heap} {locs : List Loc} {cells slots : Nat} {Q : State → Prop}
variable {cc : ByteArray} {pc : Nat} {ls : Array Slot} {rest : List Value} {D : va_G} {cl : List vw_C} {A : Nat → Prop} {ws : va_W} {H0 : Heap} {cI cZ cG : ClassId}
theorem q_new36 (hx : p.tables.exec = Jvm.exec) (hb : c.code = cc) (harr : (Cond.arrayClass .int).before args s = true) (hK : va_K D cl [(cI, .int), (cZ, .boolean), (cG, .array .int)] s) (hP : va_P D cl ws H) (hD : va_D A ws) (hS : va_S A H0 H locs) (hA : ∀ q, H0.size ≤ q → A q)
    (f : Nat → Int32) (hf : ∀ j, f j = 0) (hcells : cells + 1 ≤ R.cells) (hslots : slots + 36 ≤ R.slots) (hdg : decode cc pc = .ok (.newarray .int, 2))
    (kk : ∀ (q : Nat) (H1 : Heap) (locs : List Loc), va_P D cl (ws ++ [(q, .inl (cI, 36, .inl f))]) H1 → va_D A (ws ++ [(q, .inl (cI, 36, .inl f))]) → va_S A H0 H1 locs →
      W p l e R s m args below meth c H1 locs (cells + 1) (slots + 36) Q (F0 m (pc + 2) ls (.ref q :: rest))) : W p l e R s m args below meth c H locs cells slots Q (F0 m pc ls (.int (nI 36) :: rest)) := by
  refine va_newa (atype := .int) (n := nI 36) (N' := 36) (ty := .int) (a0 := (36, .inl f)) hx hb harr rfl hK hP hD hS hA (fun cA => ?_) (by decide) (by decide) (by decide) hcells hslots hdg (fun q cA H1 hK1 hP1 hD1 hS1 => ?_)
  · show arrV cA 36 (fun j => .int (f j)) = arrV cA 36 _
    rw [show (fun j => Value.int (f j)) = (fun _ => defaultValue .int) from funext fun j => by rw [hf j]; rfl]
  · have e := hK1.same (i := 0) rfl (Or.inl rfl)
    subst e
    exact kk q H1 _ hP1 hD1 hS1
end Q36
