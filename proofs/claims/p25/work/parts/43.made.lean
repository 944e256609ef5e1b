-- arrays that are made, the rows of a grid, the nest's constructors
theorem va_K.same {D : va_G} {cl : List vw_C} {tys : List (ClassId × FieldType)} {cA cB : ClassId} {t : FieldType} {i : Nat} {s : State} (h : va_K D cl (tys ++ [(cA, t)]) s) (ht : tys[i]? = some (cB, t)) (hn : t = .int ∨ t = .boolean ∨ t = .array .int) : cA = cB := by
  have h1 : (tys ++ [(cA, t)])[tys.length]? = some (cA, t) := by simp
  have hi : i < tys.length := (List.getElem?_eq_some_iff.mp ht).1
  have h2 : (tys ++ [(cA, t)])[i]? = some (cB, t) := by rw [List.getElem?_append_left hi]; exact ht
  have a := (h.2 _ _ h1).2
  have b := (h.2 _ _ h2).2
  rcases hn with rfl | rfl | rfl
  · exact Option.some.inj ((show s.vm.findClass _ = some cA from a).symm.trans (show s.vm.findClass _ = some cB from b))
  · exact Option.some.inj ((show s.vm.findClass _ = some cA from a).symm.trans (show s.vm.findClass _ = some cB from b))
  · exact Option.some.inj ((show s.vm.findClass _ = some cA from a).symm.trans (show s.vm.findClass _ = some cB from b))
section QMK
variable {p : Program} {l : Launch} {e : Env} {R : Room} {s : State} {m : MethodId} {args : Array Value} {below : List Frame} {meth : Method} {c : Code} {H : Heap} {locs : List Loc} {cells slots : Nat} {Q : State → Prop}
variable {cc : ByteArray} {pc : Nat} {ls : Array Slot} {rest : List Value} {D : va_G} {cl : List vw_C} {A : Nat → Prop} {ws : va_W} {H0 : Heap} {cI cZ cG : ClassId}
theorem q_newN (hx : p.tables.exec = Jvm.exec) (hb : c.code = cc) (harr : (Cond.arrayClass .int).before args s = true) (hK : va_K D cl [(cI, .int), (cZ, .boolean), (cG, .array .int)] s) (hP : va_P D cl ws H) (hD : va_D A ws) (hS : va_S A H0 H locs) (hA : ∀ q, H0.size ≤ q → A q)
    (f : Nat → Int32) (hf : ∀ j, f j = 0) (hcells : cells + 1 ≤ R.cells) (hslots : slots + 6 ≤ R.slots) (hdg : decode cc pc = .ok (.newarray .int, 2))
    (kk : ∀ (q : Nat) (H1 : Heap) (locs : List Loc), va_P D cl (ws ++ [(q, .inl (cI, 6, .inl f))]) H1 → va_D A (ws ++ [(q, .inl (cI, 6, .inl f))]) → va_S A H0 H1 locs →
      W p l e R s m args below meth c H1 locs (cells + 1) (slots + 6) Q (F0 m (pc + 2) ls (.ref q :: rest))) : W p l e R s m args below meth c H locs cells slots Q (F0 m pc ls (.int (nI 6) :: rest)) := by
  refine va_newa (atype := .int) (n := nI 6) (N' := 6) (ty := .int) (a0 := (6, .inl f)) hx hb harr rfl hK hP hD hS hA (fun cA => ?_) (by decide) (by decide) (by decide) hcells hslots hdg (fun q cA H1 hK1 hP1 hD1 hS1 => ?_)
  · show arrV cA 6 (fun j => .int (f j)) = arrV cA 6 _
    rw [show (fun j => Value.int (f j)) = (fun _ => defaultValue .int) from funext fun j => by rw [hf j]; rfl]
  · have e := hK1.same (i := 0) rfl (Or.inl rfl)
    subst e
    exact kk q H1 _ hP1 hD1 hS1
theorem q_newB (hx : p.tables.exec = Jvm.exec) (hb : c.code = cc) (harr : (Cond.arrayClass .boolean).before args s = true) (hK : va_K D cl [(cI, .int), (cZ, .boolean), (cG, .array .int)] s) (hP : va_P D cl ws H) (hD : va_D A ws) (hS : va_S A H0 H locs) (hA : ∀ q, H0.size ≤ q → A q)
    (f : Nat → Int32) (hf : ∀ j, f j = 0) (hcells : cells + 1 ≤ R.cells) (hslots : slots + 6 ≤ R.slots) (hdg : decode cc pc = .ok (.newarray .boolean, 2))
    (kk : ∀ (q : Nat) (H1 : Heap) (locs : List Loc), va_P D cl (ws ++ [(q, .inl (cZ, 6, .inl f))]) H1 → va_D A (ws ++ [(q, .inl (cZ, 6, .inl f))]) → va_S A H0 H1 locs →
      W p l e R s m args below meth c H1 locs (cells + 1) (slots + 6) Q (F0 m (pc + 2) ls (.ref q :: rest))) : W p l e R s m args below meth c H locs cells slots Q (F0 m pc ls (.int (nI 6) :: rest)) := by
  refine va_newa (atype := .boolean) (n := nI 6) (N' := 6) (ty := .boolean) (a0 := (6, .inl f)) hx hb harr rfl hK hP hD hS hA (fun cA => ?_) (by decide) (by decide) (by decide) hcells hslots hdg (fun q cA H1 hK1 hP1 hD1 hS1 => ?_)
  · show arrV cA 6 (fun j => .int (f j)) = arrV cA 6 _
    rw [show (fun j => Value.int (f j)) = (fun _ => defaultValue .boolean) from funext fun j => by rw [hf j]; rfl]
  · have e := hK1.same (i := 1) rfl (Or.inr (Or.inl rfl))
    subst e
    exact kk q H1 _ hP1 hD1 hS1
theorem q_mna {index : Nat} (hx : p.tables.exec = Jvm.exec) (hb : c.code = cc) {own : String} (hown : s.vm.findClass own = some m.cls) (hcl : (Cond.classLink own index "[[I").before args s = true) (hover : va_AOA .int s) (harr : (Cond.arrayClass .int).before args s = true) (hK : va_K D cl [(cI, .int), (cZ, .boolean), (cG, .array .int)] s) (hP : va_P D cl ws H) (hD : va_D A ws) (hS : va_S A H0 H locs) (hA : ∀ q, H0.size ≤ q → A q)
    (hcells : cells + 7 ≤ R.cells) (hslots : slots + 42 ≤ R.slots) (hdg : decode cc pc = .ok (.multianewarray index 2, 4))
    (kk : ∀ (q : Nat) (r : Nat → Nat) (H1 : Heap) (locs : List Loc), va_P D cl (ws ++ [(q, .inl (cG, 6, .inr (.inr (.inr (.inr (rf6 r)))))), (r 0, .inl (cI, 6, .inl (cN ((fun _ _ => 0) 0)))), (r 1, .inl (cI, 6, .inl (cN ((fun _ _ => 0) 1)))), (r 2, .inl (cI, 6, .inl (cN ((fun _ _ => 0) 2)))), (r 3, .inl (cI, 6, .inl (cN ((fun _ _ => 0) 3)))), (r 4, .inl (cI, 6, .inl (cN ((fun _ _ => 0) 4)))), (r 5, .inl (cI, 6, .inl (cN ((fun _ _ => 0) 5))))]) H1 →
      va_D A (ws ++ [(q, .inl (cG, 6, .inr (.inr (.inr (.inr (rf6 r)))))), (r 0, .inl (cI, 6, .inl (cN ((fun _ _ => 0) 0)))), (r 1, .inl (cI, 6, .inl (cN ((fun _ _ => 0) 1)))), (r 2, .inl (cI, 6, .inl (cN ((fun _ _ => 0) 2)))), (r 3, .inl (cI, 6, .inl (cN ((fun _ _ => 0) 3)))), (r 4, .inl (cI, 6, .inl (cN ((fun _ _ => 0) 4)))), (r 5, .inl (cI, 6, .inl (cN ((fun _ _ => 0) 5))))]) → va_S A H0 H1 locs →
      W p l e R s m args below meth c H1 locs (cells + 7) (slots + 42) Q (F0 m (pc + 4) ls (.ref q :: rest))) : W p l e R s m args below meth c H locs cells slots Q (F0 m pc ls (.int (nI 6) :: .int (nI 6) :: rest)) := by
  have e0 : ws ++ va_pl [] (fun _ => (.inr (0, []) : va_E)) = ws := by simp [va_pl]
  have hcy : s.vm.findClass (FieldType.array .int).toString = some cI := (hK.2 0 _ rfl).2
  refine va_mna (n := nI 6) (k := nI 6) (X := ws) (L := []) (f := fun _ => .inr (0, [])) (ty := .int) (cy := cI) (N' := 6) (K' := 6) (z := (6, .inl (cN (fun _ => 0)))) hx hb hown hcl hover harr hcy hK (by rw [e0]; exact hP) (by rw [e0]; exact hD) hS hA (by decide) (by decide) (by decide) (by decide) (by decide) (by decide) (by decide) rfl rfl hcells hslots (fun c9 => ?_) hdg (fun q r cA H1 hinj hnl hK1 hP1 hD1 hS1 => ?_)
  · show Jvm.Free.Multi.innerC c9 6 (defaultValue .int) = arrV c9 6 (fun j => .int (cN (fun _ => 0) j))
    simp only [Jvm.Free.Multi.innerC, arrV]
    congr 1
  · have e := hK1.same (i := 2) rfl (Or.inr (Or.inr rfl))
    subst e
    have e1 : va_pl ([] ++ (List.range 6).map r) (vr_up (fun _ => (.inr (0, []) : va_E)) ((List.range 6).map r) (.inl (cI, 6, .inl (cN (fun _ => 0))))) = [(r 0, .inl (cI, 6, .inl (cN ((fun _ _ => 0) 0)))), (r 1, .inl (cI, 6, .inl (cN ((fun _ _ => 0) 1)))), (r 2, .inl (cI, 6, .inl (cN ((fun _ _ => 0) 2)))), (r 3, .inl (cI, 6, .inl (cN ((fun _ _ => 0) 3)))), (r 4, .inl (cI, 6, .inl (cN ((fun _ _ => 0) 4)))), (r 5, .inl (cI, 6, .inl (cN ((fun _ _ => 0) 5))))] := by
      show [(r 0, _), (r 1, _), (r 2, _), (r 3, _), (r 4, _), (r 5, _)] = _
      have hm : ∀ i, i < 6 → r i ∈ (List.range 6).map r := fun i hi => List.mem_map.mpr ⟨i, List.mem_range.mpr hi, rfl⟩
      simp only [vr_up, if_pos (hm 0 (by decide)), if_pos (hm 1 (by decide)), if_pos (hm 2 (by decide)), if_pos (hm 3 (by decide)), if_pos (hm 4 (by decide)), if_pos (hm 5 (by decide))]
    rw [e1, List.append_assoc] at hP1 hD1
    exact kk q r H1 _ hP1 hD1 hS1
end QMK
-- the nest
def nX0 (U : State) : Prop := va_Nw (.methodLinkNest RX0 24 yX1_init RX6) U
def nX4 (U : State) : Prop := va_Nw (.methodLinkNest RX4 27 yX1_init RX6) U
def nX2 (U : State) : Prop := va_AOA .int U
def nX6 (U : State) : Prop := nX0 U ∧ nX4 U ∧ nX2 U ∧ va_Nw (.methodLinkNest RX6 9 yX0_init RX6) U ∧ va_Nw (.methodLinkNest RX6 18 yX4_init RX6) U ∧ va_Nw (.methodLinkNest RX6 25 yX5_init RX6) U ∧ va_Nw (.methodLinkNest RX6 32 yX1_init RX6) U ∧ va_Nw (.methodLinkNest RX6 39 yX3_init RX6) U ∧ va_Nw (.methodLinkNest RX6 46 yX2_init RX6) U
theorem nX0.warm {s U : State} (hW : s.WarmedH U.vm) (h : nX0 s) : nX0 U := va_Nw.warmM hW h
theorem nX4.warm {s U : State} (hW : s.WarmedH U.vm) (h : nX4 s) : nX4 U := va_Nw.warmM hW h
theorem nX2.warm {s U : State} (hW : s.WarmedH U.vm) (h : nX2 s) : nX2 U := va_AOA.moved hW.alike h
theorem nX6.warm {s U : State} (hW : s.WarmedH U.vm) (h : nX6 s) : nX6 U := by
  obtain ⟨h0, h4, h2, a, b, d, f, g, i⟩ := h
  exact ⟨h0.warm hW, h4.warm hW, h2.warm hW, va_Nw.warmM hW a, va_Nw.warmM hW b, va_Nw.warmM hW d, va_Nw.warmM hW f, va_Nw.warmM hW g, va_Nw.warmM hW i⟩
theorem nX0.same {s U : State} (hv : s.vm = U.vm) (h : nX0 s) : nX0 U := va_Nw.same rfl hv h
theorem nX4.same {s U : State} (hv : s.vm = U.vm) (h : nX4 s) : nX4 U := va_Nw.same rfl hv h
theorem nX2.same {s U : State} (hv : s.vm = U.vm) (h : nX2 s) : nX2 U := va_AOA.moved (by rw [hv]; exact Vm.Alike.refl _) h
theorem nX6.same {s U : State} (hv : s.vm = U.vm) (h : nX6 s) : nX6 U := by
  obtain ⟨h0, h4, h2, a, b, d, f, g, i⟩ := h
  exact ⟨h0.same hv, h4.same hv, h2.same hv, va_Nw.same rfl hv a, va_Nw.same rfl hv b, va_Nw.same rfl hv d, va_Nw.same rfl hv f, va_Nw.same rfl hv g, va_Nw.same rfl hv i⟩
theorem q_blindP {N : State → Prop} (hN : ∀ {s U : State}, s.vm = U.vm → N s → N U) {sz : Nat} {av : List Value} {D : va_G} {cl : List vw_C} {ws : va_W} {tys : List (ClassId × FieldType)} {a : Array Value} {U : State} {g : JFrame} {mk : MethodId} (q : va_Pc av (fun U => U.heap.size = sz ∧ va_P D cl ws U.heap ∧ va_K D cl tys U ∧ va_D (fun _ => True) ws ∧ N U) a U) : va_Pc av (fun U => U.heap.size = sz ∧ va_P D cl ws U.heap ∧ va_K D cl tys U ∧ va_D (fun _ => True) ws ∧ N U) a (U.calling g mk a) := by
  obtain ⟨q0, q1, qP, qK, qD, qN⟩ := q
  exact ⟨q0, q1, qP, va_K.moved (u := U) (U := U.calling g mk a) (Vm.Alike.refl U.vm) qK, qD, hN (s := U) (U := U.calling g mk a) rfl qN⟩
