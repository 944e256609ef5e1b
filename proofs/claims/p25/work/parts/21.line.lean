theorem wX1_clear_f15 : Cond.fieldLink RX1 15 "Confroom$Line" "count" "I" ∈ wsX1_clear := by decide +kernel
theorem wX1_clear_X1_u : ∀ w ∈ u_ws RX1 TX1 2, w ∈ wsX1_clear := by decide +kernel
set_option maxHeartbeats 4000000 in
set_option maxRecDepth 100000 in
theorem b_X1_clear {p : Program} {l : Launch} {e : Env} {s : State} {m : MethodId} {args : Array Value} {below : List Frame} {meth : Method} {c : Code} {Q : State → Prop} {A : Nat → Prop} {dC : Nat → ClassId} {dI : Nat → Nat → Nat} {cI cZ cG : ClassId} (hx : p.tables.exec = Jvm.exec) (hb : c.code = cX1_clear) (hml : c.maxLocals = 1) (hown : s.vm.findClass RX1 = some m.cls) (hts : ∀ w ∈ wsX1_clear, w.before args s = true) (hK : va_K (dC, dI) vwCl [(cI, .int), (cZ, .boolean), (cG, .array .int)] s) (hA : ∀ q : Nat, s.heap.size ≤ q → A q) (h0 : Nat) (h1 : Nat) (row : Nat → Nat) (L : List Nat)   {H : Heap} {locs : List Loc} {ls : Array Slot} (hP : va_P (dC, dI) vwCl [(h0, .inr (1, [.ref h1, .int (nI L.length)])), (h1, .inl (cI, 6, .inl (cN row)))] H) (hD : va_D A [(h0, .inr (1, [.ref h1, .int (nI L.length)])), (h1, .inl (cI, 6, .inl (cN row)))]) (hS : va_S A s.heap H locs) (hl : lv_has ls 1 [(0, .ref h0)]) (kret : ∀ (pcr : Nat) (H : Heap) (locs : List Loc) (ls : Array Slot) , decode cX1_clear pcr = .ok (.return_, 1) → va_P (dC, dI) vwCl [(h0, .inr (1, [.ref h1, .int (nI (([] : List Nat).length))])), (h1, .inl (cI, 6, .inl (cN row)))] H → va_D A [(h0, .inr (1, [.ref h1, .int (nI (([] : List Nat).length))])), (h1, .inl (cI, 6, .inl (cN row)))] → va_S A s.heap H locs → W p l e ({ frames := 0, cells := 0, slots := 0, locals := 0 } : Room) s m args below meth c H locs 0 0 Q (F0 m pcr ls [])) : W p l e ({ frames := 0, cells := 0, slots := 0, locals := 0 } : Room) s m args below meth c H locs 0 0 Q (F0 m 0 ls []) := by
  refine lv_aload_n hx hb dX1_clear_0 rfl (lv_at hl 0 rfl) ?_
  refine lv_iconst (v := nI 0) hx hb dX1_clear_1 (by decide) ?_
  refine va_put (D := (dC, dI)) (ci := 1) (v := .int (nI 0)) (ty := .int) (C := RX1) (T := TX1) (N := 2) hx hb hts (wX1_clear_X1_u) tyX1 tyX1_ok nmX1 hown hK hP hD hS 0 rfl rfl 1 (by decide) (hts (.fieldLink RX1 15 "Confroom$Line" "count" "I") (wX1_clear_f15)) (fun _ h9 => h9) rfl (by decide +kernel) rfl rfl (Nat.le_of_ble_eq_true rfl) dX1_clear_2 (fun H locs hP hD hS => ?_)
  have hP : va_P (dC, dI) vwCl [(h0, .inr (1, [.ref h1, .int (nI 0)])), (h1, .inl (cI, 6, .inl (cN row)))] H := hP
  have hD : va_D A [(h0, .inr (1, [.ref h1, .int (nI 0)])), (h1, .inl (cI, 6, .inl (cN row)))] := hD
  have ec1 : ([] : List Nat).length = 0 := by
    rfl
  have hP : va_P (dC, dI) vwCl [(h0, .inr (1, [.ref h1, .int (nI (([] : List Nat).length))])), (h1, .inl (cI, 6, .inl (cN row)))] H := by
    rw [ec1]
    exact hP
  have hD : va_D A [(h0, .inr (1, [.ref h1, .int (nI (([] : List Nat).length))])), (h1, .inl (cI, 6, .inl (cN row)))] := by
    rw [ec1]
    exact hD
  refine kret 5 _ _ _   dX1_clear_5 hP hD hS

set_option maxHeartbeats 4000000 in
set_option maxRecDepth 100000 in
theorem c_X1_clear (l : Launch) (dC : Nat → ClassId) (dI : Nat → Nat → Nat) (cI cZ cG : ClassId) (h0 : Nat) (h1 : Nat) (row : Nat → Nat) (L : List Nat) (sz : Nat)  : Met l yX1_clear wsX1_clear ({ frames := 0, cells := 0, slots := 0, locals := 0 } : Room) (va_Pc [.ref h0] (fun U => U.heap.size = sz ∧ va_P (dC, dI) vwCl [(h0, .inr (1, [.ref h1, .int (nI L.length)])), (h1, .inl (cI, 6, .inl (cN row)))] U.heap ∧ va_K (dC, dI) vwCl [(cI, .int), (cZ, .boolean), (cG, .array .int)] U ∧ va_D (fun _ => True) [(h0, .inr (1, [.ref h1, .int (nI L.length)])), (h1, .inl (cI, 6, .inl (cN row)))])) (va_Qv (fun (_ : Unit) => True) (fun (_ : Unit) t => va_P (dC, dI) vwCl [(h0, .inr (1, [.ref h1, .int (nI (([] : List Nat).length))])), (h1, .inl (cI, 6, .inl (cN row)))] t.heap ∧ va_D (va_A [(h0, .inr (1, [.ref h1, .int (nI L.length)])), (h1, .inl (cI, 6, .inl (cN row)))] sz) [(h0, .inr (1, [.ref h1, .int (nI (([] : List Nat).length))])), (h1, .inl (cI, 6, .inl (cN row)))]) (va_A [(h0, .inr (1, [.ref h1, .int (nI L.length)])), (h1, .inl (cI, 6, .inl (cN row)))] sz)) 0 0 (va_A [(h0, .inr (1, [.ref h1, .int (nI L.length)])), (h1, .inl (cI, 6, .inl (cN row)))] sz) := by
  refine Met.ofW (cc := cX1_clear) (maxL := 1) (ret := none) (by decide) rfl ?_
  intro p e s m args below meth c s₁ B hml hv
  obtain ⟨rfl, hsz, hP, hK, hD0⟩ := hv
  have hts := atoms_spec (ws := wsX1_clear) B.pre
  have hown : s.vm.findClass RX1 = some m.cls := findClass_of_methodNamed B.named
  have hlocks := B.notSynchronized
  subst hsz
  have hD := hD0.self (sz := s.heap.size)
  have hA : ∀ q : Nat, s.heap.size ≤ q → va_A [(h0, .inr (1, [.ref h1, .int (nI L.length)])), (h1, .inl (cI, 6, .inl (cN row)))] s.heap.size q := fun q h => Or.inr h
  have hl := lv_entry ([.ref h0]) (n := 1) (Nat.le_of_ble_eq_true rfl)
  rw [lg_entry_eq]
  generalize (lg_sl ([.ref h0]) ++ List.replicate (1 - (lg_sl ([.ref h0])).length) Slot.unset).toArray = ls at hl ⊢
  have hl : lv_has ls 1 [(0, .ref h0)] := hl
  have hx := B.exec
  have hb := B.bytes
  exact b_X1_clear hx hb hml hown hts hK hA h0 h1 row L   hP hD va_S.rf hl (fun pcr H locs ls   hd hP hD hS => W.vret hx hb B.returns (fun t ht hW => ⟨⟨(), rfl, trivial, by rw [ht]; exact hP, hD⟩, hS.F ht⟩) hS.2.2 hd)
theorem wX1_holds_f15 : Cond.fieldLink RX1 15 "Confroom$Line" "count" "I" ∈ wsX1_holds := by decide +kernel
theorem wX1_holds_f9 : Cond.fieldLink RX1 9 "Confroom$Line" "row" "[I" ∈ wsX1_holds := by decide +kernel
theorem wX1_holds_X1_u : ∀ w ∈ u_ws RX1 TX1 2, w ∈ wsX1_holds := by decide +kernel
set_option maxHeartbeats 4000000 in
set_option maxRecDepth 100000 in
theorem b_X1_holds {p : Program} {l : Launch} {e : Env} {s : State} {m : MethodId} {args : Array Value} {below : List Frame} {meth : Method} {c : Code} {Q : State → Prop} {A : Nat → Prop} {dC : Nat → ClassId} {dI : Nat → Nat → Nat} {cI cZ cG : ClassId} (hx : p.tables.exec = Jvm.exec) (hb : c.code = cX1_holds) (hml : c.maxLocals = 3) (hown : s.vm.findClass RX1 = some m.cls) (hts : ∀ w ∈ wsX1_holds, w.before args s = true) (hK : va_K (dC, dI) vwCl [(cI, .int), (cZ, .boolean), (cG, .array .int)] s) (hA : ∀ q : Nat, s.heap.size ≤ q → A q) (h0 : Nat) (h1 : Nat) (row : Nat → Nat) (L : List Nat) (pe : Nat) (hr : lrep row L) (hp : pe < 2147483648)  {H : Heap} {locs : List Loc} {ls : Array Slot} (hP : va_P (dC, dI) vwCl [(h0, .inr (1, [.ref h1, .int (nI L.length)])), (h1, .inl (cI, 6, .inl (cN row)))] H) (hD : va_D A [(h0, .inr (1, [.ref h1, .int (nI L.length)])), (h1, .inl (cI, 6, .inl (cN row)))]) (hS : va_S A s.heap H locs) (hl : lv_has ls 3 [(0, .ref h0), (1, .int (nI pe))]) (kret : ∀ (pcr : Nat) (H : Heap) (locs : List Loc) (ls : Array Slot) , decode cX1_holds pcr = .ok (.ireturn, 1) → va_P (dC, dI) vwCl [(h0, .inr (1, [.ref h1, .int (nI L.length)])), (h1, .inl (cI, 6, .inl (cN row)))] H → va_D A [(h0, .inr (1, [.ref h1, .int (nI L.length)])), (h1, .inl (cI, 6, .inl (cN row)))] → va_S A s.heap H locs → W p l e ({ frames := 0, cells := 0, slots := 0, locals := 0 } : Room) s m args below meth c H locs 0 0 Q (F0 m pcr ls [.int (bI (L.contains pe))])) : W p l e ({ frames := 0, cells := 0, slots := 0, locals := 0 } : Room) s m args below meth c H locs 0 0 Q (F0 m 0 ls []) := by
  refine lv_iconst (v := nI 0) hx hb dX1_holds_0 (by decide) ?_
  refine lv_istore_n (lv' := [(2, .int (nI 0)), (0, .ref h0), (1, .int (nI pe))]) hx hb dX1_holds_1 rfl hl (by decide) rfl (fun ls hl => ?_)
  have L2 : ∀ (n : Nat) (i : Nat) (H : Heap) (locs : List Loc) (ls : Array Slot), (holdsI L pe i) → (L.length - i < n) → va_P (dC, dI) vwCl [(h0, .inr (1, [.ref h1, .int (nI L.length)])), (h1, .inl (cI, 6, .inl (cN row)))] H → va_D A [(h0, .inr (1, [.ref h1, .int (nI L.length)])), (h1, .inl (cI, 6, .inl (cN row)))] → va_S A s.heap H locs → lv_has ls 3 [(0, .ref h0), (1, .int (nI pe)), (2, .int (nI i))] → W p l e ({ frames := 0, cells := 0, slots := 0, locals := 0 } : Room) s m args below meth c H locs 0 0 Q (F0 m 2 ls []) := by
    intro n
    induction n with
    | zero =>
      intro i H locs ls hi hm
      exact absurd hm (Nat.not_lt_zero _)
    | succ n ih2 =>
      intro i H locs ls hi hm hP hD hS hl
      refine lv_iload_n hx hb dX1_holds_2 rfl (lv_at hl 2 rfl) ?_
      refine lv_aload_n hx hb dX1_holds_3 rfl (lv_at hl 0 rfl) ?_
      refine va_get (D := (dC, dI)) (ci := 1) (v := .int (nI L.length)) (C := RX1) (T := TX1) (N := 2) hx hb hts (wX1_holds_X1_u) hown hK hP 0 rfl rfl 1 (by decide) (hts (.fieldLink RX1 15 "Confroom$Line" "count" "I") (wX1_holds_f15)) (fun _ h9 => h9) rfl dX1_holds_4 ?_
      have hlen := hr.len
      have hil := hi.1
      refine q_ge (tgt := 28) hx hb (a := i) (b := L.length) (by omega) (by omega) dX1_holds_7 (by decide) (fun c7 => ?_) (fun c7 => ?_)
      · refine lv_iconst (v := nI 0) hx hb dX1_holds_28 (by decide) ?_
        have ev1 : bI false = bI (L.contains pe) := by rw [holdsI_end hi c7]
        refine q_as ((show nI 0 = bI false from rfl).trans ev1) ?_
        refine kret 29 _ _ _   dX1_holds_29 hP hD hS
      · refine lv_aload_n hx hb dX1_holds_10 rfl (lv_at hl 0 rfl) ?_
        refine va_get (D := (dC, dI)) (ci := 1) (v := .ref h1) (C := RX1) (T := TX1) (N := 2) hx hb hts (wX1_holds_X1_u) hown hK hP 0 rfl rfl 0 (by decide) (hts (.fieldLink RX1 9 "Confroom$Line" "row" "[I") (wX1_holds_f9)) (fun _ h9 => h9) rfl dX1_holds_11 ?_
        refine lv_iload_n hx hb dX1_holds_14 rfl (lv_at hl 2 rfl) ?_
        refine q_iN hx hb hK hP 1 0 rfl rfl (k := i) (by omega) (by decide) dX1_holds_15 ?_
        refine lv_iload_n hx hb dX1_holds_16 rfl (lv_at hl 1 rfl) ?_
        have hrl := hr.lt c7
        refine q_ne (tgt := 22) hx hb (a := (row i)) (b := pe) (by omega) (by omega) dX1_holds_17 (by decide) (fun c17 => ?_) (fun c17 => ?_)
        · refine lv_iinc (v := nI (i + 1)) (lv' := [(2, .int (nI (i + 1))), (0, .ref h0), (1, .int (nI pe))]) hx hb dX1_holds_22 hl (k := 2) rfl (q_inc i 1) (by decide) rfl (fun ls hl => ?_)
          refine lv_goto (tgt := 2) hx hb dX1_holds_25 (by decide) ?_
          refine ih2 (i + 1) _ _ _ ?_ (by omega) hP hD hS (lv_sub hl [1, 2, 0] rfl)
          · exact holdsI_s hi hr c7 c17
        · refine lv_iconst (v := nI 1) hx hb dX1_holds_20 (by decide) ?_
          have ev2 : bI true = bI (L.contains pe) := by rw [holds_yes hr c7 c17]
          refine q_as ((show nI 1 = bI true from rfl).trans ev2) ?_
          refine kret 21 _ _ _   dX1_holds_21 hP hD hS
  refine L2 _ 0 _ _ _ ?_ (Nat.lt_succ_self _) hP hD hS (lv_sub hl [1, 2, 0] rfl)
  · exact holdsI_0 L pe

set_option maxHeartbeats 4000000 in
set_option maxRecDepth 100000 in
theorem c_X1_holds (l : Launch) (dC : Nat → ClassId) (dI : Nat → Nat → Nat) (cI cZ cG : ClassId) (h0 : Nat) (h1 : Nat) (row : Nat → Nat) (L : List Nat) (pe : Nat) (sz : Nat) (hr : lrep row L) (hp : pe < 2147483648) : Met l yX1_holds wsX1_holds ({ frames := 0, cells := 0, slots := 0, locals := 0 } : Room) (va_Pc [.ref h0, .int (nI pe)] (fun U => U.heap.size = sz ∧ va_P (dC, dI) vwCl [(h0, .inr (1, [.ref h1, .int (nI L.length)])), (h1, .inl (cI, 6, .inl (cN row)))] U.heap ∧ va_K (dC, dI) vwCl [(cI, .int), (cZ, .boolean), (cG, .array .int)] U ∧ va_D (fun _ => True) [(h0, .inr (1, [.ref h1, .int (nI L.length)])), (h1, .inl (cI, 6, .inl (cN row)))])) (va_Qi (fun (r u : Int32) => r = u) (fun (u : Int32) t => u = bI (L.contains pe) ∧ va_P (dC, dI) vwCl [(h0, .inr (1, [.ref h1, .int (nI L.length)])), (h1, .inl (cI, 6, .inl (cN row)))] t.heap ∧ va_D (va_A [(h0, .inr (1, [.ref h1, .int (nI L.length)])), (h1, .inl (cI, 6, .inl (cN row)))] sz) [(h0, .inr (1, [.ref h1, .int (nI L.length)])), (h1, .inl (cI, 6, .inl (cN row)))]) (va_A [(h0, .inr (1, [.ref h1, .int (nI L.length)])), (h1, .inl (cI, 6, .inl (cN row)))] sz)) 0 0 (va_A [(h0, .inr (1, [.ref h1, .int (nI L.length)])), (h1, .inl (cI, 6, .inl (cN row)))] sz) := by
  refine Met.ofW (cc := cX1_holds) (maxL := 3) (ret := (some .boolean)) (by decide) rfl ?_
  intro p e s m args below meth c s₁ B hml hv
  obtain ⟨rfl, hsz, hP, hK, hD0⟩ := hv
  have hts := atoms_spec (ws := wsX1_holds) B.pre
  have hown : s.vm.findClass RX1 = some m.cls := findClass_of_methodNamed B.named
  have hlocks := B.notSynchronized
  subst hsz
  have hD := hD0.self (sz := s.heap.size)
  have hA : ∀ q : Nat, s.heap.size ≤ q → va_A [(h0, .inr (1, [.ref h1, .int (nI L.length)])), (h1, .inl (cI, 6, .inl (cN row)))] s.heap.size q := fun q h => Or.inr h
  have hl := lv_entry ([.ref h0, .int (nI pe)]) (n := 3) (Nat.le_of_ble_eq_true rfl)
  rw [lg_entry_eq]
  generalize (lg_sl ([.ref h0, .int (nI pe)]) ++ List.replicate (3 - (lg_sl ([.ref h0, .int (nI pe)])).length) Slot.unset).toArray = ls at hl ⊢
  have hl : lv_has ls 3 [(0, .ref h0), (1, .int (nI pe))] := hl
  have hx := B.exec
  have hb := B.bytes
  exact b_X1_holds hx hb hml hown hts hK hA h0 h1 row L pe hr hp  hP hD va_S.rf hl (fun pcr H locs ls   hd hP hD hS => W.zret hx hb B.returns (q_nz _) (fun t ht hW => ⟨⟨_, _, rfl, rfl, rfl, by rw [ht]; exact hP, hD⟩, hS.F ht⟩) hS.2.2 hd)
theorem wX1_drop_f15 : Cond.fieldLink RX1 15 "Confroom$Line" "count" "I" ∈ wsX1_drop := by decide +kernel
theorem wX1_drop_f9 : Cond.fieldLink RX1 9 "Confroom$Line" "row" "[I" ∈ wsX1_drop := by decide +kernel
theorem wX1_drop_X1_u : ∀ w ∈ u_ws RX1 TX1 2, w ∈ wsX1_drop := by decide +kernel
set_option maxHeartbeats 4000000 in
set_option maxRecDepth 100000 in
theorem b_X1_drop {p : Program} {l : Launch} {e : Env} {s : State} {m : MethodId} {args : Array Value} {below : List Frame} {meth : Method} {c : Code} {Q : State → Prop} {A : Nat → Prop} {dC : Nat → ClassId} {dI : Nat → Nat → Nat} {cI cZ cG : ClassId} (hx : p.tables.exec = Jvm.exec) (hb : c.code = cX1_drop) (hml : c.maxLocals = 4) (hown : s.vm.findClass RX1 = some m.cls) (hts : ∀ w ∈ wsX1_drop, w.before args s = true) (hK : va_K (dC, dI) vwCl [(cI, .int), (cZ, .boolean), (cG, .array .int)] s) (hA : ∀ q : Nat, s.heap.size ≤ q → A q) (h0 : Nat) (h1 : Nat) (row : Nat → Nat) (L : List Nat) (pe : Nat) (hr : lrep row L) (hp : pe < 2147483648)  {H : Heap} {locs : List Loc} {ls : Array Slot} (hP : va_P (dC, dI) vwCl [(h0, .inr (1, [.ref h1, .int (nI L.length)])), (h1, .inl (cI, 6, .inl (cN row)))] H) (hD : va_D A [(h0, .inr (1, [.ref h1, .int (nI L.length)])), (h1, .inl (cI, 6, .inl (cN row)))]) (hS : va_S A s.heap H locs) (hl : lv_has ls 4 [(0, .ref h0), (1, .int (nI pe))]) (kret : ∀ (pcr : Nat) (H : Heap) (locs : List Loc) (ls : Array Slot) (row2 : Nat → Nat), (lrep row2 (dropL L pe)) → decode cX1_drop pcr = .ok (.return_, 1) → va_P (dC, dI) vwCl [(h0, .inr (1, [.ref h1, .int (nI ((dropL L pe).length))])), (h1, .inl (cI, 6, .inl (cN row2)))] H → va_D A [(h0, .inr (1, [.ref h1, .int (nI ((dropL L pe).length))])), (h1, .inl (cI, 6, .inl (cN row2)))] → va_S A s.heap H locs → W p l e ({ frames := 0, cells := 0, slots := 0, locals := 0 } : Room) s m args below meth c H locs 0 0 Q (F0 m pcr ls [])) : W p l e ({ frames := 0, cells := 0, slots := 0, locals := 0 } : Room) s m args below meth c H locs 0 0 Q (F0 m 0 ls []) := by
  refine lv_iconst (v := nI 0) hx hb dX1_drop_0 (by decide) ?_
  refine lv_istore_n (lv' := [(2, .int (nI 0)), (0, .ref h0), (1, .int (nI pe))]) hx hb dX1_drop_1 rfl hl (by decide) rfl (fun ls hl => ?_)
  refine lv_iconst (v := nI 0) hx hb dX1_drop_2 (by decide) ?_
  refine lv_istore_n (lv' := [(3, .int (nI 0)), (2, .int (nI 0)), (0, .ref h0), (1, .int (nI pe))]) hx hb dX1_drop_3 rfl hl (by decide) rfl (fun ls hl => ?_)
  have L4 : ∀ (n : Nat) (k : Nat) (i : Nat) (rw2 : Nat → Nat) (H : Heap) (locs : List Loc) (ls : Array Slot), (dropI L pe rw2 k i) → (L.length - i < n) → va_P (dC, dI) vwCl [(h0, .inr (1, [.ref h1, .int (nI L.length)])), (h1, .inl (cI, 6, .inl (cN rw2)))] H → va_D A [(h0, .inr (1, [.ref h1, .int (nI L.length)])), (h1, .inl (cI, 6, .inl (cN rw2)))] → va_S A s.heap H locs → lv_has ls 4 [(0, .ref h0), (1, .int (nI pe)), (2, .int (nI k)), (3, .int (nI i))] → W p l e ({ frames := 0, cells := 0, slots := 0, locals := 0 } : Room) s m args below meth c H locs 0 0 Q (F0 m 4 ls []) := by
    intro n
    induction n with
    | zero =>
      intro k i rw2 H locs ls hi hm
      exact absurd hm (Nat.not_lt_zero _)
    | succ n ih4 =>
      intro k i rw2 H locs ls hi hm hP hD hS hl
      refine lv_iload_n hx hb dX1_drop_4 rfl (lv_at hl 3 rfl) ?_
      refine lv_aload_n hx hb dX1_drop_5 rfl (lv_at hl 0 rfl) ?_
      refine va_get (D := (dC, dI)) (ci := 1) (v := .int (nI L.length)) (C := RX1) (T := TX1) (N := 2) hx hb hts (wX1_drop_X1_u) hown hK hP 0 rfl rfl 1 (by decide) (hts (.fieldLink RX1 15 "Confroom$Line" "count" "I") (wX1_drop_f15)) (fun _ h9 => h9) rfl dX1_drop_6 ?_
      have hlen := hr.len
      have hil := hi.1
      have hle := hi.le
      refine q_ge (tgt := 43) hx hb (a := i) (b := L.length) (by omega) (by omega) dX1_drop_9 (by decide) (fun c9 => ?_) (fun c9 => ?_)
      · have hend := dropI_end hr hi c9
        refine lv_aload_n hx hb dX1_drop_43 rfl (lv_at hl 0 rfl) ?_
        refine lv_iload_n hx hb dX1_drop_44 rfl (lv_at hl 2 rfl) ?_
        refine va_put (D := (dC, dI)) (ci := 1) (v := .int (nI k)) (ty := .int) (C := RX1) (T := TX1) (N := 2) hx hb hts (wX1_drop_X1_u) tyX1 tyX1_ok nmX1 hown hK hP hD hS 0 rfl rfl 1 (by decide) (hts (.fieldLink RX1 15 "Confroom$Line" "count" "I") (wX1_drop_f15)) (fun _ h9 => h9) rfl (by decide +kernel) rfl rfl (Nat.le_of_ble_eq_true rfl) dX1_drop_45 (fun H locs hP hD hS => ?_)
        have hP : va_P (dC, dI) vwCl [(h0, .inr (1, [.ref h1, .int (nI k)])), (h1, .inl (cI, 6, .inl (cN rw2)))] H := hP
        have hD : va_D A [(h0, .inr (1, [.ref h1, .int (nI k)])), (h1, .inl (cI, 6, .inl (cN rw2)))] := hD
        have ec1 : (dropL L pe).length = k := by
          exact hend.2.symm
        have hP : va_P (dC, dI) vwCl [(h0, .inr (1, [.ref h1, .int (nI ((dropL L pe).length))])), (h1, .inl (cI, 6, .inl (cN rw2)))] H := by
          rw [ec1]
          exact hP
        have hD : va_D A [(h0, .inr (1, [.ref h1, .int (nI ((dropL L pe).length))])), (h1, .inl (cI, 6, .inl (cN rw2)))] := by
          rw [ec1]
          exact hD
        refine kret 48 _ _ _ rw2 ?_ dX1_drop_48 hP hD hS
        · exact hend.1
      · refine lv_aload_n hx hb dX1_drop_12 rfl (lv_at hl 0 rfl) ?_
        refine va_get (D := (dC, dI)) (ci := 1) (v := .ref h1) (C := RX1) (T := TX1) (N := 2) hx hb hts (wX1_drop_X1_u) hown hK hP 0 rfl rfl 0 (by decide) (hts (.fieldLink RX1 9 "Confroom$Line" "row" "[I") (wX1_drop_f9)) (fun _ h9 => h9) rfl dX1_drop_13 ?_
        refine lv_iload_n hx hb dX1_drop_16 rfl (lv_at hl 3 rfl) ?_
        refine q_iN hx hb hK hP 1 0 rfl rfl (k := i) (by omega) (by decide) dX1_drop_17 ?_
        refine lv_iload_n hx hb dX1_drop_18 rfl (lv_at hl 1 rfl) ?_
        have hrl : rw2 i < 6 := by
          rw [hi.2.2.2 i (Nat.le_refl _) c9]
          exact hr.1.2 _ (getD_in c9)
        refine q_eq (tgt := 37) hx hb (a := (rw2 i)) (b := pe) (by omega) (by omega) dX1_drop_19 (by decide) (fun c19 => ?_) (fun c19 => ?_)
        · refine lv_iinc (v := nI (i + 1)) (lv' := [(3, .int (nI (i + 1))), (0, .ref h0), (1, .int (nI pe)), (2, .int (nI k))]) hx hb dX1_drop_37 hl (k := 3) rfl (q_inc i 1) (by decide) rfl (fun ls hl => ?_)
          refine lv_goto (tgt := 4) hx hb dX1_drop_40 (by decide) ?_
          refine ih4 k (i + 1) rw2 _ _ _ ?_ (by omega) hP hD hS (lv_sub hl [1, 2, 3, 0] rfl)
          · first | exact dropI_keep hi c9 c19 | exact dropI_skip hi c9 c19
        · refine lv_aload_n hx hb dX1_drop_22 rfl (lv_at hl 0 rfl) ?_
          refine va_get (D := (dC, dI)) (ci := 1) (v := .ref h1) (C := RX1) (T := TX1) (N := 2) hx hb hts (wX1_drop_X1_u) hown hK hP 0 rfl rfl 0 (by decide) (hts (.fieldLink RX1 9 "Confroom$Line" "row" "[I") (wX1_drop_f9)) (fun _ h9 => h9) rfl dX1_drop_23 ?_
          refine lv_iload_n hx hb dX1_drop_26 rfl (lv_at hl 2 rfl) ?_
          refine lv_aload_n hx hb dX1_drop_27 rfl (lv_at hl 0 rfl) ?_
          refine va_get (D := (dC, dI)) (ci := 1) (v := .ref h1) (C := RX1) (T := TX1) (N := 2) hx hb hts (wX1_drop_X1_u) hown hK hP 0 rfl rfl 0 (by decide) (hts (.fieldLink RX1 9 "Confroom$Line" "row" "[I") (wX1_drop_f9)) (fun _ h9 => h9) rfl dX1_drop_28 ?_
          refine lv_iload_n hx hb dX1_drop_31 rfl (lv_at hl 3 rfl) ?_
          refine q_iN hx hb hK hP 1 0 rfl rfl (k := i) (by omega) (by decide) dX1_drop_32 ?_
          refine q_sN hx hb hK hP hD hS 1 0 rfl rfl (k := k) (x := (rw2 i)) (by omega) (by decide) dX1_drop_33 (fun H locs hP hD hS => ?_)
          have hP : va_P (dC, dI) vwCl [(h0, .inr (1, [.ref h1, .int (nI L.length)])), (h1, .inl (cI, 6, .inl (cN (va_up rw2 k (rw2 i)))))] H := hP
          have hD : va_D A [(h0, .inr (1, [.ref h1, .int (nI L.length)])), (h1, .inl (cI, 6, .inl (cN (va_up rw2 k (rw2 i)))))] := hD
          refine lv_iinc (v := nI (k + 1)) (lv' := [(2, .int (nI (k + 1))), (0, .ref h0), (1, .int (nI pe)), (3, .int (nI i))]) hx hb dX1_drop_34 hl (k := 2) rfl (q_inc k 1) (by decide) rfl (fun ls hl => ?_)
          refine lv_iinc (v := nI (i + 1)) (lv' := [(3, .int (nI (i + 1))), (2, .int (nI (k + 1))), (0, .ref h0), (1, .int (nI pe))]) hx hb dX1_drop_37 hl (k := 3) rfl (q_inc i 1) (by decide) rfl (fun ls hl => ?_)
          refine lv_goto (tgt := 4) hx hb dX1_drop_40 (by decide) ?_
          refine ih4 (k + 1) (i + 1) (va_up rw2 k (rw2 i)) _ _ _ ?_ (by omega) hP hD hS (lv_sub hl [2, 3, 1, 0] rfl)
          · first | exact dropI_keep hi c9 c19 | exact dropI_skip hi c9 c19
  refine L4 _ 0 0 row _ _ _ ?_ (Nat.lt_succ_self _) hP hD hS (lv_sub hl [2, 3, 1, 0] rfl)
  · exact dropI_0 hr

set_option maxHeartbeats 4000000 in
set_option maxRecDepth 100000 in
theorem c_X1_drop (l : Launch) (dC : Nat → ClassId) (dI : Nat → Nat → Nat) (cI cZ cG : ClassId) (h0 : Nat) (h1 : Nat) (row : Nat → Nat) (L : List Nat) (pe : Nat) (sz : Nat) (hr : lrep row L) (hp : pe < 2147483648) : Met l yX1_drop wsX1_drop ({ frames := 0, cells := 0, slots := 0, locals := 0 } : Room) (va_Pc [.ref h0, .int (nI pe)] (fun U => U.heap.size = sz ∧ va_P (dC, dI) vwCl [(h0, .inr (1, [.ref h1, .int (nI L.length)])), (h1, .inl (cI, 6, .inl (cN row)))] U.heap ∧ va_K (dC, dI) vwCl [(cI, .int), (cZ, .boolean), (cG, .array .int)] U ∧ va_D (fun _ => True) [(h0, .inr (1, [.ref h1, .int (nI L.length)])), (h1, .inl (cI, 6, .inl (cN row)))])) (va_Qv (fun (_ : Unit) => True) (fun (_ : Unit) t => ∃ (row2 : Nat → Nat), (lrep row2 (dropL L pe)) ∧ va_P (dC, dI) vwCl [(h0, .inr (1, [.ref h1, .int (nI ((dropL L pe).length))])), (h1, .inl (cI, 6, .inl (cN row2)))] t.heap ∧ va_D (va_A [(h0, .inr (1, [.ref h1, .int (nI L.length)])), (h1, .inl (cI, 6, .inl (cN row)))] sz) [(h0, .inr (1, [.ref h1, .int (nI ((dropL L pe).length))])), (h1, .inl (cI, 6, .inl (cN row2)))]) (va_A [(h0, .inr (1, [.ref h1, .int (nI L.length)])), (h1, .inl (cI, 6, .inl (cN row)))] sz)) 0 0 (va_A [(h0, .inr (1, [.ref h1, .int (nI L.length)])), (h1, .inl (cI, 6, .inl (cN row)))] sz) := by
  refine Met.ofW (cc := cX1_drop) (maxL := 4) (ret := none) (by decide) rfl ?_
  intro p e s m args below meth c s₁ B hml hv
  obtain ⟨rfl, hsz, hP, hK, hD0⟩ := hv
  have hts := atoms_spec (ws := wsX1_drop) B.pre
  have hown : s.vm.findClass RX1 = some m.cls := findClass_of_methodNamed B.named
  have hlocks := B.notSynchronized
  subst hsz
  have hD := hD0.self (sz := s.heap.size)
  have hA : ∀ q : Nat, s.heap.size ≤ q → va_A [(h0, .inr (1, [.ref h1, .int (nI L.length)])), (h1, .inl (cI, 6, .inl (cN row)))] s.heap.size q := fun q h => Or.inr h
  have hl := lv_entry ([.ref h0, .int (nI pe)]) (n := 4) (Nat.le_of_ble_eq_true rfl)
  rw [lg_entry_eq]
  generalize (lg_sl ([.ref h0, .int (nI pe)]) ++ List.replicate (4 - (lg_sl ([.ref h0, .int (nI pe)])).length) Slot.unset).toArray = ls at hl ⊢
  have hl : lv_has ls 4 [(0, .ref h0), (1, .int (nI pe))] := hl
  have hx := B.exec
  have hb := B.bytes
  exact b_X1_drop hx hb hml hown hts hK hA h0 h1 row L pe hr hp  hP hD va_S.rf hl (fun pcr H locs ls row2 hp0 hd hP hD hS => W.vret hx hb B.returns (fun t ht hW => ⟨⟨(), rfl, trivial, row2, hp0, by rw [ht]; exact hP, hD⟩, hS.F ht⟩) hS.2.2 hd)
theorem wX1_putLast_f15 : Cond.fieldLink RX1 15 "Confroom$Line" "count" "I" ∈ wsX1_putLast := by decide +kernel
theorem wX1_putLast_f9 : Cond.fieldLink RX1 9 "Confroom$Line" "row" "[I" ∈ wsX1_putLast := by decide +kernel
theorem wX1_putLast_X1_u : ∀ w ∈ u_ws RX1 TX1 2, w ∈ wsX1_putLast := by decide +kernel
set_option maxHeartbeats 4000000 in
set_option maxRecDepth 100000 in
theorem b_X1_putLast {p : Program} {l : Launch} {e : Env} {s : State} {m : MethodId} {args : Array Value} {below : List Frame} {meth : Method} {c : Code} {Q : State → Prop} {A : Nat → Prop} {dC : Nat → ClassId} {dI : Nat → Nat → Nat} {cI cZ cG : ClassId} (hx : p.tables.exec = Jvm.exec) (hb : c.code = cX1_putLast) (hml : c.maxLocals = 2) (hown : s.vm.findClass RX1 = some m.cls) (hts : ∀ w ∈ wsX1_putLast, w.before args s = true) (hK : va_K (dC, dI) vwCl [(cI, .int), (cZ, .boolean), (cG, .array .int)] s) (hA : ∀ q : Nat, s.heap.size ≤ q → A q) (h0 : Nat) (h1 : Nat) (row : Nat → Nat) (L : List Nat) (pe : Nat) (hr : lrep row L) (hp : pe < 6)  {H : Heap} {locs : List Loc} {ls : Array Slot} (hP : va_P (dC, dI) vwCl [(h0, .inr (1, [.ref h1, .int (nI L.length)])), (h1, .inl (cI, 6, .inl (cN row)))] H) (hD : va_D A [(h0, .inr (1, [.ref h1, .int (nI L.length)])), (h1, .inl (cI, 6, .inl (cN row)))]) (hS : va_S A s.heap H locs) (hl : lv_has ls 2 [(0, .ref h0), (1, .int (nI pe))]) (kret : ∀ (pcr : Nat) (H : Heap) (locs : List Loc) (ls : Array Slot) (row2 : Nat → Nat), (lrep row2 (putL L pe)) → decode cX1_putLast pcr = .ok (.return_, 1) → va_P (dC, dI) vwCl [(h0, .inr (1, [.ref h1, .int (nI ((putL L pe).length))])), (h1, .inl (cI, 6, .inl (cN row2)))] H → va_D A [(h0, .inr (1, [.ref h1, .int (nI ((putL L pe).length))])), (h1, .inl (cI, 6, .inl (cN row2)))] → va_S A s.heap H locs → W p l e ({ frames := 1, cells := 0, slots := 0, locals := 22 } : Room) s m args below meth c H locs 0 0 Q (F0 m pcr ls [])) : W p l e ({ frames := 1, cells := 0, slots := 0, locals := 22 } : Room) s m args below meth c H locs 0 0 Q (F0 m 0 ls []) := by
  refine lv_aload_n hx hb dX1_putLast_0 rfl (lv_at hl 0 rfl) ?_
  refine va_get (D := (dC, dI)) (ci := 1) (v := .int (nI L.length)) (C := RX1) (T := TX1) (N := 2) hx hb hts (wX1_putLast_X1_u) hown hK hP 0 rfl rfl 1 (by decide) (hts (.fieldLink RX1 15 "Confroom$Line" "count" "I") (wX1_putLast_f15)) (fun _ h9 => h9) rfl dX1_putLast_1 ?_
  refine lv_bipush (v := nI 6) hx hb dX1_putLast_4 (by decide) ?_
  have hln := hr.len
  refine q_ge (tgt := 37) hx hb (a := L.length) (b := 6) (by omega) (by omega) dX1_putLast_6 (by decide) (fun c6 => ?_) (fun c6 => ?_)
  · have ec1 : (putL L pe).length = L.length := by
      first | rw [putL_full hr.1 hp c6] | rw [putL_yes c14] | (rw [putL_no c14]; simp)
    have hP : va_P (dC, dI) vwCl [(h0, .inr (1, [.ref h1, .int (nI ((putL L pe).length))])), (h1, .inl (cI, 6, .inl (cN row)))] H := by
      rw [ec1]
      exact hP
    have hD : va_D A [(h0, .inr (1, [.ref h1, .int (nI ((putL L pe).length))])), (h1, .inl (cI, 6, .inl (cN row)))] := by
      rw [ec1]
      exact hD
    refine kret 37 _ _ _ row ?_ dX1_putLast_37 hP hD hS
    · first | (rw [putL_full hr.1 hp (by omega)]; exact hr) | (rw [putL_yes c14]; exact hr) | (rw [putL_no c14]; exact lrep_last hr hp (cont_no c14))
  · refine lv_aload_n hx hb dX1_putLast_9 rfl (lv_at hl 0 rfl) ?_
    refine lv_iload_n hx hb dX1_putLast_10 rfl (lv_at hl 1 rfl) ?_
    have hPc := hP.sub (ws' := [(h0, .inr (1, [.ref h1, .int (nI L.length)])), (h1, .inl (cI, 6, .inl (cN row)))]) [0, 1] rfl
    have hDc := hD.sub (ws' := [(h0, .inr (1, [.ref h1, .int (nI L.length)])), (h1, .inl (cI, 6, .inl (cN row)))]) [0, 1] (by decide) rfl
    have hFc := va_free (wc := [(h0, .inr (1, [.ref h1, .int (nI L.length)])), (h1, .inl (cI, 6, .inl (cN row)))]) hD hS hA [0, 1] rfl
    have hq2_0 : lrep row L := by
      first | assumption | omega
    have hq2_1 : pe < 2147483648 := by
      first | assumption | omega
    refine va_calli (va_runV (As := [.int (nI pe)]) (rest := []) ⟨hx, hb, hml, hown, hts⟩ (c_X1_holds l dC dI cI cZ cG h0 h1 row L pe H.size hq2_0 hq2_1) (cwV 1 hts gX1_putLast_X1_holds rfl rfl rfl (by decide +kernel) ⟨Nat.le_of_ble_eq_true rfl, Nat.le_of_ble_eq_true rfl⟩) ⟨fun a U g mk q => q_blind q, va_recv hK hPc (ci := 1) (q0 := 0) rfl rfl, fun U hU hW => ⟨rfl, by rw [hU], by rw [hU]; exact hPc, va_K.moved hW.alike hK, hDc.weaken (fun _ _ _ _ => trivial)⟩⟩ rfl rfl hl.1 rfl (lv_room (Nat.le_of_ble_eq_true rfl)) dX1_putLast_11 ⟨by decide, by decide⟩) hS (fun q _ h => hFc q h) hFc (fun rv u t H1 locs ht hvm hw hB hz1 hk1 hS => ?_)
    obtain ⟨  hr2, hP1, hD1⟩ := hB
    rw [ht] at hP1
    subst hw
    subst hr2
    obtain ⟨hP, hD⟩ := va_join (wr := []) (w1 := [(h0, .inr (1, [.ref h1, .int (nI L.length)])), (h1, .inl (cI, 6, .inl (cN row)))]) hP hD [0, 1] [] rfl rfl (by decide) (by decide) hk1 hFc hP1 hD1
    generalize H1 = H at hP hS ⊢
    have hP := hP.sub (ws' := [(h0, .inr (1, [.ref h1, .int (nI L.length)])), (h1, .inl (cI, 6, .inl (cN row)))]) [0, 1] rfl
    have hD := hD.sub (ws' := [(h0, .inr (1, [.ref h1, .int (nI L.length)])), (h1, .inl (cI, 6, .inl (cN row)))]) [0, 1] (by decide) rfl
    refine q_zne (tgt := 37) hx hb (b := (L.contains pe)) dX1_putLast_14 (by decide) (fun c14 => ?_) (fun c14 => ?_)
    · have ec3 : (putL L pe).length = L.length := by
        first | rw [putL_full hr.1 hp c6] | rw [putL_yes c14] | (rw [putL_no c14]; simp)
      have hP : va_P (dC, dI) vwCl [(h0, .inr (1, [.ref h1, .int (nI ((putL L pe).length))])), (h1, .inl (cI, 6, .inl (cN row)))] H := by
        rw [ec3]
        exact hP
      have hD : va_D A [(h0, .inr (1, [.ref h1, .int (nI ((putL L pe).length))])), (h1, .inl (cI, 6, .inl (cN row)))] := by
        rw [ec3]
        exact hD
      refine kret 37 _ _ _ row ?_ dX1_putLast_37 hP hD hS
      · first | (rw [putL_full hr.1 hp (by omega)]; exact hr) | (rw [putL_yes c14]; exact hr) | (rw [putL_no c14]; exact lrep_last hr hp (cont_no c14))
    · refine lv_aload_n hx hb dX1_putLast_17 rfl (lv_at hl 0 rfl) ?_
      refine va_get (D := (dC, dI)) (ci := 1) (v := .ref h1) (C := RX1) (T := TX1) (N := 2) hx hb hts (wX1_putLast_X1_u) hown hK hP 0 rfl rfl 0 (by decide) (hts (.fieldLink RX1 9 "Confroom$Line" "row" "[I") (wX1_putLast_f9)) (fun _ h9 => h9) rfl dX1_putLast_18 ?_
      refine lv_aload_n hx hb dX1_putLast_21 rfl (lv_at hl 0 rfl) ?_
      refine va_get (D := (dC, dI)) (ci := 1) (v := .int (nI L.length)) (C := RX1) (T := TX1) (N := 2) hx hb hts (wX1_putLast_X1_u) hown hK hP 0 rfl rfl 1 (by decide) (hts (.fieldLink RX1 15 "Confroom$Line" "count" "I") (wX1_putLast_f15)) (fun _ h9 => h9) rfl dX1_putLast_22 ?_
      refine lv_iload_n hx hb dX1_putLast_25 rfl (lv_at hl 1 rfl) ?_
      refine q_sN hx hb hK hP hD hS 1 0 rfl rfl (k := L.length) (x := pe) (by omega) (by decide) dX1_putLast_26 (fun H locs hP hD hS => ?_)
      have hP : va_P (dC, dI) vwCl [(h0, .inr (1, [.ref h1, .int (nI L.length)])), (h1, .inl (cI, 6, .inl (cN (va_up row L.length pe))))] H := hP
      have hD : va_D A [(h0, .inr (1, [.ref h1, .int (nI L.length)])), (h1, .inl (cI, 6, .inl (cN (va_up row L.length pe))))] := hD
      refine lv_aload_n hx hb dX1_putLast_27 rfl (lv_at hl 0 rfl) ?_
      refine lv_dup hx hb dX1_putLast_28 rfl ?_
      refine va_get (D := (dC, dI)) (ci := 1) (v := .int (nI L.length)) (C := RX1) (T := TX1) (N := 2) hx hb hts (wX1_putLast_X1_u) hown hK hP 0 rfl rfl 1 (by decide) (hts (.fieldLink RX1 15 "Confroom$Line" "count" "I") (wX1_putLast_f15)) (fun _ h9 => h9) rfl dX1_putLast_29 ?_
      refine lv_iconst (v := nI 1) hx hb dX1_putLast_32 (by decide) ?_
      refine lv_iadd hx hb dX1_putLast_33 (q_as (nI_add L.length 1) ?_)
      refine va_put (D := (dC, dI)) (ci := 1) (v := .int (nI (L.length + 1))) (ty := .int) (C := RX1) (T := TX1) (N := 2) hx hb hts (wX1_putLast_X1_u) tyX1 tyX1_ok nmX1 hown hK hP hD hS 0 rfl rfl 1 (by decide) (hts (.fieldLink RX1 15 "Confroom$Line" "count" "I") (wX1_putLast_f15)) (fun _ h9 => h9) rfl (by decide +kernel) rfl rfl (Nat.le_of_ble_eq_true rfl) dX1_putLast_34 (fun H locs hP hD hS => ?_)
      have hP : va_P (dC, dI) vwCl [(h0, .inr (1, [.ref h1, .int (nI (L.length + 1))])), (h1, .inl (cI, 6, .inl (cN (va_up row L.length pe))))] H := hP
      have hD : va_D A [(h0, .inr (1, [.ref h1, .int (nI (L.length + 1))])), (h1, .inl (cI, 6, .inl (cN (va_up row L.length pe))))] := hD
      have ec4 : (putL L pe).length = L.length + 1 := by
        first | rw [putL_full hr.1 hp c6] | rw [putL_yes c14] | (rw [putL_no c14]; simp)
      have hP : va_P (dC, dI) vwCl [(h0, .inr (1, [.ref h1, .int (nI ((putL L pe).length))])), (h1, .inl (cI, 6, .inl (cN (va_up row L.length pe))))] H := by
        rw [ec4]
        exact hP
      have hD : va_D A [(h0, .inr (1, [.ref h1, .int (nI ((putL L pe).length))])), (h1, .inl (cI, 6, .inl (cN (va_up row L.length pe))))] := by
        rw [ec4]
        exact hD
      refine kret 37 _ _ _ (va_up row L.length pe) ?_ dX1_putLast_37 hP hD hS
      · first | (rw [putL_full hr.1 hp (by omega)]; exact hr) | (rw [putL_yes c14]; exact hr) | (rw [putL_no c14]; exact lrep_last hr hp (cont_no c14))

set_option maxHeartbeats 4000000 in
set_option maxRecDepth 100000 in
theorem c_X1_putLast (l : Launch) (dC : Nat → ClassId) (dI : Nat → Nat → Nat) (cI cZ cG : ClassId) (h0 : Nat) (h1 : Nat) (row : Nat → Nat) (L : List Nat) (pe : Nat) (sz : Nat) (hr : lrep row L) (hp : pe < 6) : Met l yX1_putLast wsX1_putLast ({ frames := 1, cells := 0, slots := 0, locals := 22 } : Room) (va_Pc [.ref h0, .int (nI pe)] (fun U => U.heap.size = sz ∧ va_P (dC, dI) vwCl [(h0, .inr (1, [.ref h1, .int (nI L.length)])), (h1, .inl (cI, 6, .inl (cN row)))] U.heap ∧ va_K (dC, dI) vwCl [(cI, .int), (cZ, .boolean), (cG, .array .int)] U ∧ va_D (fun _ => True) [(h0, .inr (1, [.ref h1, .int (nI L.length)])), (h1, .inl (cI, 6, .inl (cN row)))])) (va_Qv (fun (_ : Unit) => True) (fun (_ : Unit) t => ∃ (row2 : Nat → Nat), (lrep row2 (putL L pe)) ∧ va_P (dC, dI) vwCl [(h0, .inr (1, [.ref h1, .int (nI ((putL L pe).length))])), (h1, .inl (cI, 6, .inl (cN row2)))] t.heap ∧ va_D (va_A [(h0, .inr (1, [.ref h1, .int (nI L.length)])), (h1, .inl (cI, 6, .inl (cN row)))] sz) [(h0, .inr (1, [.ref h1, .int (nI ((putL L pe).length))])), (h1, .inl (cI, 6, .inl (cN row2)))]) (va_A [(h0, .inr (1, [.ref h1, .int (nI L.length)])), (h1, .inl (cI, 6, .inl (cN row)))] sz)) 0 0 (va_A [(h0, .inr (1, [.ref h1, .int (nI L.length)])), (h1, .inl (cI, 6, .inl (cN row)))] sz) := by
  refine Met.ofW (cc := cX1_putLast) (maxL := 2) (ret := none) (by decide) rfl ?_
  intro p e s m args below meth c s₁ B hml hv
  obtain ⟨rfl, hsz, hP, hK, hD0⟩ := hv
  have hts := atoms_spec (ws := wsX1_putLast) B.pre
  have hown : s.vm.findClass RX1 = some m.cls := findClass_of_methodNamed B.named
  have hlocks := B.notSynchronized
  subst hsz
  have hD := hD0.self (sz := s.heap.size)
  have hA : ∀ q : Nat, s.heap.size ≤ q → va_A [(h0, .inr (1, [.ref h1, .int (nI L.length)])), (h1, .inl (cI, 6, .inl (cN row)))] s.heap.size q := fun q h => Or.inr h
  have hl := lv_entry ([.ref h0, .int (nI pe)]) (n := 2) (Nat.le_of_ble_eq_true rfl)
  rw [lg_entry_eq]
  generalize (lg_sl ([.ref h0, .int (nI pe)]) ++ List.replicate (2 - (lg_sl ([.ref h0, .int (nI pe)])).length) Slot.unset).toArray = ls at hl ⊢
  have hl : lv_has ls 2 [(0, .ref h0), (1, .int (nI pe))] := hl
  have hx := B.exec
  have hb := B.bytes
  exact b_X1_putLast hx hb hml hown hts hK hA h0 h1 row L pe hr hp  hP hD va_S.rf hl (fun pcr H locs ls row2 hp0 hd hP hD hS => W.vret hx hb B.returns (fun t ht hW => ⟨⟨(), rfl, trivial, row2, hp0, by rw [ht]; exact hP, hD⟩, hS.F ht⟩) hS.2.2 hd)
theorem wX1_putFirst_f15 : Cond.fieldLink RX1 15 "Confroom$Line" "count" "I" ∈ wsX1_putFirst := by decide +kernel
theorem wX1_putFirst_f9 : Cond.fieldLink RX1 9 "Confroom$Line" "row" "[I" ∈ wsX1_putFirst := by decide +kernel
theorem wX1_putFirst_X1_u : ∀ w ∈ u_ws RX1 TX1 2, w ∈ wsX1_putFirst := by decide +kernel
set_option maxHeartbeats 4000000 in
set_option maxRecDepth 100000 in
theorem b_X1_putFirst {p : Program} {l : Launch} {e : Env} {s : State} {m : MethodId} {args : Array Value} {below : List Frame} {meth : Method} {c : Code} {Q : State → Prop} {A : Nat → Prop} {dC : Nat → ClassId} {dI : Nat → Nat → Nat} {cI cZ cG : ClassId} (hx : p.tables.exec = Jvm.exec) (hb : c.code = cX1_putFirst) (hml : c.maxLocals = 3) (hown : s.vm.findClass RX1 = some m.cls) (hts : ∀ w ∈ wsX1_putFirst, w.before args s = true) (hK : va_K (dC, dI) vwCl [(cI, .int), (cZ, .boolean), (cG, .array .int)] s) (hA : ∀ q : Nat, s.heap.size ≤ q → A q) (h0 : Nat) (h1 : Nat) (row : Nat → Nat) (L : List Nat) (pe : Nat) (hr : lrep row L) (hp : pe < 6)  {H : Heap} {locs : List Loc} {ls : Array Slot} (hP : va_P (dC, dI) vwCl [(h0, .inr (1, [.ref h1, .int (nI L.length)])), (h1, .inl (cI, 6, .inl (cN row)))] H) (hD : va_D A [(h0, .inr (1, [.ref h1, .int (nI L.length)])), (h1, .inl (cI, 6, .inl (cN row)))]) (hS : va_S A s.heap H locs) (hl : lv_has ls 3 [(0, .ref h0), (1, .int (nI pe))]) (kret : ∀ (pcr : Nat) (H : Heap) (locs : List Loc) (ls : Array Slot) (row2 : Nat → Nat), (lrep row2 (pe :: dropL L pe)) → decode cX1_putFirst pcr = .ok (.return_, 1) → va_P (dC, dI) vwCl [(h0, .inr (1, [.ref h1, .int (nI ((pe :: dropL L pe).length))])), (h1, .inl (cI, 6, .inl (cN row2)))] H → va_D A [(h0, .inr (1, [.ref h1, .int (nI ((pe :: dropL L pe).length))])), (h1, .inl (cI, 6, .inl (cN row2)))] → va_S A s.heap H locs → W p l e ({ frames := 1, cells := 0, slots := 0, locals := 23 } : Room) s m args below meth c H locs 0 0 Q (F0 m pcr ls [])) : W p l e ({ frames := 1, cells := 0, slots := 0, locals := 23 } : Room) s m args below meth c H locs 0 0 Q (F0 m 0 ls []) := by
  refine lv_aload_n hx hb dX1_putFirst_0 rfl (lv_at hl 0 rfl) ?_
  refine lv_iload_n hx hb dX1_putFirst_1 rfl (lv_at hl 1 rfl) ?_
  have hPc := hP.sub (ws' := [(h0, .inr (1, [.ref h1, .int (nI L.length)])), (h1, .inl (cI, 6, .inl (cN row)))]) [0, 1] rfl
  have hDc := hD.sub (ws' := [(h0, .inr (1, [.ref h1, .int (nI L.length)])), (h1, .inl (cI, 6, .inl (cN row)))]) [0, 1] (by decide) rfl
  have hFc := va_free (wc := [(h0, .inr (1, [.ref h1, .int (nI L.length)])), (h1, .inl (cI, 6, .inl (cN row)))]) hD hS hA [0, 1] rfl
  have hq1_0 : lrep row L := by
    first | assumption | omega
  have hq1_1 : pe < 2147483648 := by
    first | assumption | omega
  refine va_callv (va_runV (As := [.int (nI pe)]) (rest := []) ⟨hx, hb, hml, hown, hts⟩ (c_X1_drop l dC dI cI cZ cG h0 h1 row L pe H.size hq1_0 hq1_1) (cwV 1 hts gX1_putFirst_X1_drop rfl rfl rfl (by decide +kernel) ⟨Nat.le_of_ble_eq_true rfl, Nat.le_of_ble_eq_true rfl⟩) ⟨fun a U g mk q => q_blind q, va_recv hK hPc (ci := 1) (q0 := 0) rfl rfl, fun U hU hW => ⟨rfl, by rw [hU], by rw [hU]; exact hPc, va_K.moved hW.alike hK, hDc.weaken (fun _ _ _ _ => trivial)⟩⟩ rfl rfl hl.1 rfl (lv_room (Nat.le_of_ble_eq_true rfl)) dX1_putFirst_2 ⟨by decide, by decide⟩) hS (fun q _ h => hFc q h) hFc (fun u t H1 locs ht hvm hw hB hz1 hk1 hS => ?_)
  obtain ⟨row2_1, hp1_0, hP1, hD1⟩ := hB
  rw [ht] at hP1
  obtain ⟨hP, hD⟩ := va_join (wr := []) (w1 := [(h0, .inr (1, [.ref h1, .int (nI ((dropL L pe).length))])), (h1, .inl (cI, 6, .inl (cN row2_1)))]) hP hD [0, 1] [] rfl rfl (by decide) (by decide) hk1 hFc hP1 hD1
  generalize H1 = H at hP hS ⊢
  have hP := hP.sub (ws' := [(h0, .inr (1, [.ref h1, .int (nI ((dropL L pe).length))])), (h1, .inl (cI, 6, .inl (cN row2_1)))]) [0, 1] rfl
  have hD := hD.sub (ws' := [(h0, .inr (1, [.ref h1, .int (nI ((dropL L pe).length))])), (h1, .inl (cI, 6, .inl (cN row2_1)))]) [0, 1] (by decide) rfl
  have hdl := hr.1.drop_len hp
  have hgd := hr.1.drop pe
  refine lv_aload_n hx hb dX1_putFirst_5 rfl (lv_at hl 0 rfl) ?_
  refine va_get (D := (dC, dI)) (ci := 1) (v := .int (nI ((dropL L pe).length))) (C := RX1) (T := TX1) (N := 2) hx hb hts (wX1_putFirst_X1_u) hown hK hP 0 rfl rfl 1 (by decide) (hts (.fieldLink RX1 15 "Confroom$Line" "count" "I") (wX1_putFirst_f15)) (fun _ h9 => h9) rfl dX1_putFirst_6 ?_
  refine lv_bipush (v := nI 6) hx hb dX1_putFirst_9 (by decide) ?_
  refine q_ge (tgt := 60) hx hb (a := ((dropL L pe).length)) (b := 6) (by omega) (by omega) dX1_putFirst_11 (by decide) (fun c11 => ?_) (fun c11 => ?_)
  · exact absurd c11 (by omega)
  · refine lv_aload_n hx hb dX1_putFirst_14 rfl (lv_at hl 0 rfl) ?_
    refine va_get (D := (dC, dI)) (ci := 1) (v := .int (nI ((dropL L pe).length))) (C := RX1) (T := TX1) (N := 2) hx hb hts (wX1_putFirst_X1_u) hown hK hP 0 rfl rfl 1 (by decide) (hts (.fieldLink RX1 15 "Confroom$Line" "count" "I") (wX1_putFirst_f15)) (fun _ h9 => h9) rfl dX1_putFirst_15 ?_
    refine lv_istore_n (lv' := [(2, .int (nI ((dropL L pe).length))), (0, .ref h0), (1, .int (nI pe))]) hx hb dX1_putFirst_18 rfl hl (by decide) rfl (fun ls hl => ?_)
    have L19 : ∀ (n : Nat) (k : Nat) (rw2 : Nat → Nat) (H : Heap) (locs : List Loc) (ls : Array Slot), (shiftI (dropL L pe) rw2 k) → (k < n) → va_P (dC, dI) vwCl [(h0, .inr (1, [.ref h1, .int (nI ((dropL L pe).length))])), (h1, .inl (cI, 6, .inl (cN rw2)))] H → va_D A [(h0, .inr (1, [.ref h1, .int (nI ((dropL L pe).length))])), (h1, .inl (cI, 6, .inl (cN rw2)))] → va_S A s.heap H locs → lv_has ls 3 [(0, .ref h0), (1, .int (nI pe)), (2, .int (nI k))] → W p l e ({ frames := 1, cells := 0, slots := 0, locals := 23 } : Room) s m args below meth c H locs 0 0 Q (F0 m 19 ls []) := by
      intro n
      induction n with
      | zero =>
        intro k rw2 H locs ls hi hm
        exact absurd hm (Nat.not_lt_zero _)
      | succ n ih19 =>
        intro k rw2 H locs ls hi hm hP hD hS hl
        refine lv_iload_n hx hb dX1_putFirst_19 rfl (lv_at hl 2 rfl) ?_
        have hik := hi.1
        refine q_0le (tgt := 43) hx hb (a := k) (by omega) dX1_putFirst_20 (by decide) (fun c20 => ?_) (fun c20 => ?_)
        · refine lv_aload_n hx hb dX1_putFirst_43 rfl (lv_at hl 0 rfl) ?_
          refine va_get (D := (dC, dI)) (ci := 1) (v := .ref h1) (C := RX1) (T := TX1) (N := 2) hx hb hts (wX1_putFirst_X1_u) hown hK hP 0 rfl rfl 0 (by decide) (hts (.fieldLink RX1 9 "Confroom$Line" "row" "[I") (wX1_putFirst_f9)) (fun _ h9 => h9) rfl dX1_putFirst_44 ?_
          refine lv_iconst (v := nI 0) hx hb dX1_putFirst_47 (by decide) ?_
          refine lv_iload_n hx hb dX1_putFirst_48 rfl (lv_at hl 1 rfl) ?_
          refine q_sN hx hb hK hP hD hS 1 0 rfl rfl (k := 0) (x := pe) (by omega) (by decide) dX1_putFirst_49 (fun H locs hP hD hS => ?_)
          have hP : va_P (dC, dI) vwCl [(h0, .inr (1, [.ref h1, .int (nI ((dropL L pe).length))])), (h1, .inl (cI, 6, .inl (cN (va_up rw2 0 pe))))] H := hP
          have hD : va_D A [(h0, .inr (1, [.ref h1, .int (nI ((dropL L pe).length))])), (h1, .inl (cI, 6, .inl (cN (va_up rw2 0 pe))))] := hD
          refine lv_aload_n hx hb dX1_putFirst_50 rfl (lv_at hl 0 rfl) ?_
          refine lv_dup hx hb dX1_putFirst_51 rfl ?_
          refine va_get (D := (dC, dI)) (ci := 1) (v := .int (nI ((dropL L pe).length))) (C := RX1) (T := TX1) (N := 2) hx hb hts (wX1_putFirst_X1_u) hown hK hP 0 rfl rfl 1 (by decide) (hts (.fieldLink RX1 15 "Confroom$Line" "count" "I") (wX1_putFirst_f15)) (fun _ h9 => h9) rfl dX1_putFirst_52 ?_
          refine lv_iconst (v := nI 1) hx hb dX1_putFirst_55 (by decide) ?_
          refine lv_iadd hx hb dX1_putFirst_56 (q_as (nI_add ((dropL L pe).length) 1) ?_)
          refine va_put (D := (dC, dI)) (ci := 1) (v := .int (nI ((dropL L pe).length + 1))) (ty := .int) (C := RX1) (T := TX1) (N := 2) hx hb hts (wX1_putFirst_X1_u) tyX1 tyX1_ok nmX1 hown hK hP hD hS 0 rfl rfl 1 (by decide) (hts (.fieldLink RX1 15 "Confroom$Line" "count" "I") (wX1_putFirst_f15)) (fun _ h9 => h9) rfl (by decide +kernel) rfl rfl (Nat.le_of_ble_eq_true rfl) dX1_putFirst_57 (fun H locs hP hD hS => ?_)
          have hP : va_P (dC, dI) vwCl [(h0, .inr (1, [.ref h1, .int (nI ((dropL L pe).length + 1))])), (h1, .inl (cI, 6, .inl (cN (va_up rw2 0 pe))))] H := hP
          have hD : va_D A [(h0, .inr (1, [.ref h1, .int (nI ((dropL L pe).length + 1))])), (h1, .inl (cI, 6, .inl (cN (va_up rw2 0 pe))))] := hD
          have ec2 : (pe :: dropL L pe).length = (dropL L pe).length + 1 := by
            simp
          have hP : va_P (dC, dI) vwCl [(h0, .inr (1, [.ref h1, .int (nI ((pe :: dropL L pe).length))])), (h1, .inl (cI, 6, .inl (cN (va_up rw2 0 pe))))] H := by
            rw [ec2]
            exact hP
          have hD : va_D A [(h0, .inr (1, [.ref h1, .int (nI ((pe :: dropL L pe).length))])), (h1, .inl (cI, 6, .inl (cN (va_up rw2 0 pe))))] := by
            rw [ec2]
            exact hD
          refine kret 60 _ _ _ (va_up rw2 0 pe) ?_ dX1_putFirst_60 hP hD hS
          · subst c20
            exact shiftI_end hi hgd hp (drop_notin L pe)
        · refine lv_aload_n hx hb dX1_putFirst_23 rfl (lv_at hl 0 rfl) ?_
          refine va_get (D := (dC, dI)) (ci := 1) (v := .ref h1) (C := RX1) (T := TX1) (N := 2) hx hb hts (wX1_putFirst_X1_u) hown hK hP 0 rfl rfl 0 (by decide) (hts (.fieldLink RX1 9 "Confroom$Line" "row" "[I") (wX1_putFirst_f9)) (fun _ h9 => h9) rfl dX1_putFirst_24 ?_
          refine lv_iload_n hx hb dX1_putFirst_27 rfl (lv_at hl 2 rfl) ?_
          refine lv_aload_n hx hb dX1_putFirst_28 rfl (lv_at hl 0 rfl) ?_
          refine va_get (D := (dC, dI)) (ci := 1) (v := .ref h1) (C := RX1) (T := TX1) (N := 2) hx hb hts (wX1_putFirst_X1_u) hown hK hP 0 rfl rfl 0 (by decide) (hts (.fieldLink RX1 9 "Confroom$Line" "row" "[I") (wX1_putFirst_f9)) (fun _ h9 => h9) rfl dX1_putFirst_29 ?_
          refine lv_iload_n hx hb dX1_putFirst_32 rfl (lv_at hl 2 rfl) ?_
          refine lv_iconst (v := nI 1) hx hb dX1_putFirst_33 (by decide) ?_
          refine lv_isub hx hb dX1_putFirst_34 (q_as (pk_sub (by omega)) ?_)
          refine q_iN hx hb hK hP 1 0 rfl rfl (k := (k - 1)) (by omega) (by decide) dX1_putFirst_35 ?_
          refine q_sN hx hb hK hP hD hS 1 0 rfl rfl (k := k) (x := (rw2 (k - 1))) (by omega) (by decide) dX1_putFirst_36 (fun H locs hP hD hS => ?_)
          have hP : va_P (dC, dI) vwCl [(h0, .inr (1, [.ref h1, .int (nI ((dropL L pe).length))])), (h1, .inl (cI, 6, .inl (cN (va_up rw2 k (rw2 (k - 1))))))] H := hP
          have hD : va_D A [(h0, .inr (1, [.ref h1, .int (nI ((dropL L pe).length))])), (h1, .inl (cI, 6, .inl (cN (va_up rw2 k (rw2 (k - 1))))))] := hD
          refine lv_iinc (v := nI (k - 1)) (lv' := [(2, .int (nI (k - 1))), (0, .ref h0), (1, .int (nI pe))]) hx hb dX1_putFirst_37 hl (k := 2) rfl (q_dec (by omega)) (by decide) rfl (fun ls hl => ?_)
          refine lv_goto (tgt := 19) hx hb dX1_putFirst_40 (by decide) ?_
          refine ih19 (k - 1) (va_up rw2 k (rw2 (k - 1))) _ _ _ ?_ (by omega) hP hD hS (lv_sub hl [1, 2, 0] rfl)
          · exact shiftI_s hi c20
    refine L19 _ ((dropL L pe).length) row2_1 _ _ _ ?_ (Nat.lt_succ_self _) hP hD hS (lv_sub hl [1, 2, 0] rfl)
    · exact shiftI_0 hp1_0

set_option maxHeartbeats 4000000 in
set_option maxRecDepth 100000 in
theorem c_X1_putFirst (l : Launch) (dC : Nat → ClassId) (dI : Nat → Nat → Nat) (cI cZ cG : ClassId) (h0 : Nat) (h1 : Nat) (row : Nat → Nat) (L : List Nat) (pe : Nat) (sz : Nat) (hr : lrep row L) (hp : pe < 6) : Met l yX1_putFirst wsX1_putFirst ({ frames := 1, cells := 0, slots := 0, locals := 23 } : Room) (va_Pc [.ref h0, .int (nI pe)] (fun U => U.heap.size = sz ∧ va_P (dC, dI) vwCl [(h0, .inr (1, [.ref h1, .int (nI L.length)])), (h1, .inl (cI, 6, .inl (cN row)))] U.heap ∧ va_K (dC, dI) vwCl [(cI, .int), (cZ, .boolean), (cG, .array .int)] U ∧ va_D (fun _ => True) [(h0, .inr (1, [.ref h1, .int (nI L.length)])), (h1, .inl (cI, 6, .inl (cN row)))])) (va_Qv (fun (_ : Unit) => True) (fun (_ : Unit) t => ∃ (row2 : Nat → Nat), (lrep row2 (pe :: dropL L pe)) ∧ va_P (dC, dI) vwCl [(h0, .inr (1, [.ref h1, .int (nI ((pe :: dropL L pe).length))])), (h1, .inl (cI, 6, .inl (cN row2)))] t.heap ∧ va_D (va_A [(h0, .inr (1, [.ref h1, .int (nI L.length)])), (h1, .inl (cI, 6, .inl (cN row)))] sz) [(h0, .inr (1, [.ref h1, .int (nI ((pe :: dropL L pe).length))])), (h1, .inl (cI, 6, .inl (cN row2)))]) (va_A [(h0, .inr (1, [.ref h1, .int (nI L.length)])), (h1, .inl (cI, 6, .inl (cN row)))] sz)) 0 0 (va_A [(h0, .inr (1, [.ref h1, .int (nI L.length)])), (h1, .inl (cI, 6, .inl (cN row)))] sz) := by
  refine Met.ofW (cc := cX1_putFirst) (maxL := 3) (ret := none) (by decide) rfl ?_
  intro p e s m args below meth c s₁ B hml hv
  obtain ⟨rfl, hsz, hP, hK, hD0⟩ := hv
  have hts := atoms_spec (ws := wsX1_putFirst) B.pre
  have hown : s.vm.findClass RX1 = some m.cls := findClass_of_methodNamed B.named
  have hlocks := B.notSynchronized
  subst hsz
  have hD := hD0.self (sz := s.heap.size)
  have hA : ∀ q : Nat, s.heap.size ≤ q → va_A [(h0, .inr (1, [.ref h1, .int (nI L.length)])), (h1, .inl (cI, 6, .inl (cN row)))] s.heap.size q := fun q h => Or.inr h
  have hl := lv_entry ([.ref h0, .int (nI pe)]) (n := 3) (Nat.le_of_ble_eq_true rfl)
  rw [lg_entry_eq]
  generalize (lg_sl ([.ref h0, .int (nI pe)]) ++ List.replicate (3 - (lg_sl ([.ref h0, .int (nI pe)])).length) Slot.unset).toArray = ls at hl ⊢
  have hl : lv_has ls 3 [(0, .ref h0), (1, .int (nI pe))] := hl
  have hx := B.exec
  have hb := B.bytes
  exact b_X1_putFirst hx hb hml hown hts hK hA h0 h1 row L pe hr hp  hP hD va_S.rf hl (fun pcr H locs ls row2 hp0 hd hP hD hS => W.vret hx hb B.returns (fun t ht hW => ⟨⟨(), rfl, trivial, row2, hp0, by rw [ht]; exact hP, hD⟩, hS.F ht⟩) hS.2.2 hd)
