theorem wX0_isHere_f9 : Cond.fieldLink RX0 9 "Confroom$Floor" "here" "[Z" ∈ wsX0_isHere := by decide +kernel
theorem wX0_isHere_X0_u : ∀ w ∈ u_ws RX0 TX0 8, w ∈ wsX0_isHere := by decide +kernel
set_option maxHeartbeats 4000000 in
set_option maxRecDepth 100000 in
theorem b_X0_isHere {p : Program} {l : Launch} {e : Env} {s : State} {m : MethodId} {args : Array Value} {below : List Frame} {meth : Method} {c : Code} {Q : State → Prop} {A : Nat → Prop} {dC : Nat → ClassId} {dI : Nat → Nat → Nat} {cI cZ cG : ClassId} (hx : p.tables.exec = Jvm.exec) (hb : c.code = cX0_isHere) (hml : c.maxLocals = 2) (hown : s.vm.findClass RX0 = some m.cls) (hts : ∀ w ∈ wsX0_isHere, w.before args s = true) (hK : va_K (dC, dI) vwCl [(cI, .int), (cZ, .boolean), (cG, .array .int)] s) (hA : ∀ q : Nat, s.heap.size ≤ q → A q) (f0 : Nat) (f1 : Nat) (f2 : Nat) (f3 : Nat) (s0 : Nat) (ld : Option Nat) (ho : Nat) (lo : Option Nat) (ls1 : Nat) (he : Nat → Bool) (pr : Int32)   {H : Heap} {locs : List Loc} {ls : Array Slot} (hP : va_P (dC, dI) vwCl [(f0, .inr (0, [.ref f1, .ref f2, .ref f3, .ref s0, .int (oI ld), .int (nI ho), .int (oI lo), .int (nI ls1)])), (f1, .inl (cZ, 6, .inl (cB he)))] H) (hD : va_D A [(f0, .inr (0, [.ref f1, .ref f2, .ref f3, .ref s0, .int (oI ld), .int (nI ho), .int (oI lo), .int (nI ls1)])), (f1, .inl (cZ, 6, .inl (cB he)))]) (hS : va_S A s.heap H locs) (hl : lv_has ls 2 [(0, .ref f0), (1, .int pr)]) (kret : ∀ (pcr : Nat) (H : Heap) (locs : List Loc) (ls : Array Slot) , decode cX0_isHere pcr = .ok (.ireturn, 1) → va_P (dC, dI) vwCl [(f0, .inr (0, [.ref f1, .ref f2, .ref f3, .ref s0, .int (oI ld), .int (nI ho), .int (oI lo), .int (nI ls1)])), (f1, .inl (cZ, 6, .inl (cB he)))] H → va_D A [(f0, .inr (0, [.ref f1, .ref f2, .ref f3, .ref s0, .int (oI ld), .int (nI ho), .int (oI lo), .int (nI ls1)])), (f1, .inl (cZ, 6, .inl (cB he)))] → va_S A s.heap H locs → W p l e ({ frames := 0, cells := 0, slots := 0, locals := 0 } : Room) s m args below meth c H locs 0 0 Q (F0 m pcr ls [.int (bI (isP he pr))])) : W p l e ({ frames := 0, cells := 0, slots := 0, locals := 0 } : Room) s m args below meth c H locs 0 0 Q (F0 m 0 ls []) := by
  refine lv_iload_n hx hb dX0_isHere_0 rfl (lv_at hl 1 rfl) ?_
  refine lv_if_lt (tgt := 23) hx hb dX0_isHere_1 (by decide) (fun c1 => ?_) (fun c1 => ?_)
  · refine lv_iconst (v := nI 0) hx hb dX0_isHere_23 (by decide) ?_
    have ev1 : bI false = bI (isP he pr) := by congr 1; first | exact (isP_neg c1).symm | exact (isP_big c7).symm | exact ((isP_val c1 c7).trans c16).symm
    refine q_as ((show nI 0 = bI false from rfl).trans ev1) ?_
    refine kret 24 _ _ _   dX0_isHere_24 hP hD hS
  · refine lv_iload_n hx hb dX0_isHere_4 rfl (lv_at hl 1 rfl) ?_
    refine lv_bipush (v := nI 6) hx hb dX0_isHere_5 (by decide) ?_
    refine lv_icmp_ge (tgt := 23) hx hb dX0_isHere_7 (by decide) (fun c7 => ?_) (fun c7 => ?_)
    · refine lv_iconst (v := nI 0) hx hb dX0_isHere_23 (by decide) ?_
      have ev2 : bI false = bI (isP he pr) := by congr 1; first | exact (isP_neg c1).symm | exact (isP_big c7).symm | exact ((isP_val c1 c7).trans c16).symm
      refine q_as ((show nI 0 = bI false from rfl).trans ev2) ?_
      refine kret 24 _ _ _   dX0_isHere_24 hP hD hS
    · refine lv_aload_n hx hb dX0_isHere_10 rfl (lv_at hl 0 rfl) ?_
      refine va_get (D := (dC, dI)) (ci := 0) (v := .ref f1) (C := RX0) (T := TX0) (N := 8) hx hb hts (wX0_isHere_X0_u) hown hK hP 0 rfl rfl 0 (by decide) (hts (.fieldLink RX0 9 "Confroom$Floor" "here" "[Z") (wX0_isHere_f9)) (fun _ h9 => h9) rfl dX0_isHere_11 ?_
      refine lv_iload_n hx hb dX0_isHere_14 rfl (lv_at hl 1 rfl) ?_
      refine q_zBr hx hb hK hP 1 1 rfl rfl (six_in c1 c7) dX0_isHere_15 ?_
      refine q_zeq (tgt := 23) hx hb (b := (he pr.toNatClampNeg)) dX0_isHere_16 (by decide) (fun c16 => ?_) (fun c16 => ?_)
      · refine lv_iconst (v := nI 0) hx hb dX0_isHere_23 (by decide) ?_
        have ev3 : bI false = bI (isP he pr) := by congr 1; first | exact (isP_neg c1).symm | exact (isP_big c7).symm | exact ((isP_val c1 c7).trans c16).symm
        refine q_as ((show nI 0 = bI false from rfl).trans ev3) ?_
        refine kret 24 _ _ _   dX0_isHere_24 hP hD hS
      · refine lv_iconst (v := nI 1) hx hb dX0_isHere_19 (by decide) ?_
        refine lv_goto (tgt := 24) hx hb dX0_isHere_20 (by decide) ?_
        have ev4 : bI true = bI (isP he pr) := by congr 1; first | exact (isP_neg c1).symm | exact (isP_big c7).symm | exact ((isP_val c1 c7).trans c16).symm
        refine q_as ((show nI 1 = bI true from rfl).trans ev4) ?_
        refine kret 24 _ _ _   dX0_isHere_24 hP hD hS

set_option maxHeartbeats 4000000 in
set_option maxRecDepth 100000 in
theorem c_X0_isHere (l : Launch) (dC : Nat → ClassId) (dI : Nat → Nat → Nat) (cI cZ cG : ClassId) (f0 : Nat) (f1 : Nat) (f2 : Nat) (f3 : Nat) (s0 : Nat) (ld : Option Nat) (ho : Nat) (lo : Option Nat) (ls1 : Nat) (he : Nat → Bool) (pr : Int32) (sz : Nat)  : Met l yX0_isHere wsX0_isHere ({ frames := 0, cells := 0, slots := 0, locals := 0 } : Room) (va_Pc [.ref f0, .int pr] (fun U => U.heap.size = sz ∧ va_P (dC, dI) vwCl [(f0, .inr (0, [.ref f1, .ref f2, .ref f3, .ref s0, .int (oI ld), .int (nI ho), .int (oI lo), .int (nI ls1)])), (f1, .inl (cZ, 6, .inl (cB he)))] U.heap ∧ va_K (dC, dI) vwCl [(cI, .int), (cZ, .boolean), (cG, .array .int)] U ∧ va_D (fun _ => True) [(f0, .inr (0, [.ref f1, .ref f2, .ref f3, .ref s0, .int (oI ld), .int (nI ho), .int (oI lo), .int (nI ls1)])), (f1, .inl (cZ, 6, .inl (cB he)))])) (va_Qi (fun (r u : Int32) => r = u) (fun (u : Int32) t => u = bI (isP he pr) ∧ va_P (dC, dI) vwCl [(f0, .inr (0, [.ref f1, .ref f2, .ref f3, .ref s0, .int (oI ld), .int (nI ho), .int (oI lo), .int (nI ls1)])), (f1, .inl (cZ, 6, .inl (cB he)))] t.heap ∧ va_D (va_A [(f0, .inr (0, [.ref f1, .ref f2, .ref f3, .ref s0, .int (oI ld), .int (nI ho), .int (oI lo), .int (nI ls1)])), (f1, .inl (cZ, 6, .inl (cB he)))] sz) [(f0, .inr (0, [.ref f1, .ref f2, .ref f3, .ref s0, .int (oI ld), .int (nI ho), .int (oI lo), .int (nI ls1)])), (f1, .inl (cZ, 6, .inl (cB he)))]) (va_A [(f0, .inr (0, [.ref f1, .ref f2, .ref f3, .ref s0, .int (oI ld), .int (nI ho), .int (oI lo), .int (nI ls1)])), (f1, .inl (cZ, 6, .inl (cB he)))] sz)) 0 0 (va_A [(f0, .inr (0, [.ref f1, .ref f2, .ref f3, .ref s0, .int (oI ld), .int (nI ho), .int (oI lo), .int (nI ls1)])), (f1, .inl (cZ, 6, .inl (cB he)))] sz) := by
  refine Met.ofW (cc := cX0_isHere) (maxL := 2) (ret := (some .boolean)) (by decide) rfl ?_
  intro p e s m args below meth c s₁ B hml hv
  obtain ⟨rfl, hsz, hP, hK, hD0⟩ := hv
  have hts := atoms_spec (ws := wsX0_isHere) B.pre
  have hown : s.vm.findClass RX0 = some m.cls := findClass_of_methodNamed B.named
  have hlocks := B.notSynchronized
  subst hsz
  have hD := hD0.self (sz := s.heap.size)
  have hA : ∀ q : Nat, s.heap.size ≤ q → va_A [(f0, .inr (0, [.ref f1, .ref f2, .ref f3, .ref s0, .int (oI ld), .int (nI ho), .int (oI lo), .int (nI ls1)])), (f1, .inl (cZ, 6, .inl (cB he)))] s.heap.size q := fun q h => Or.inr h
  have hl := lv_entry ([.ref f0, .int pr]) (n := 2) (Nat.le_of_ble_eq_true rfl)
  rw [lg_entry_eq]
  generalize (lg_sl ([.ref f0, .int pr]) ++ List.replicate (2 - (lg_sl ([.ref f0, .int pr])).length) Slot.unset).toArray = ls at hl ⊢
  have hl : lv_has ls 2 [(0, .ref f0), (1, .int pr)] := hl
  have hx := B.exec
  have hb := B.bytes
  exact b_X0_isHere hx hb hml hown hts hK hA f0 f1 f2 f3 s0 ld ho lo ls1 he pr   hP hD va_S.rf hl (fun pcr H locs ls   hd hP hD hS => W.zret hx hb B.returns (q_nz _) (fun t ht hW => ⟨⟨_, _, rfl, rfl, rfl, by rw [ht]; exact hP, hD⟩, hS.F ht⟩) hS.2.2 hd)
theorem wX0_headCount_f9 : Cond.fieldLink RX0 9 "Confroom$Floor" "here" "[Z" ∈ wsX0_headCount := by decide +kernel
theorem wX0_headCount_X0_u : ∀ w ∈ u_ws RX0 TX0 8, w ∈ wsX0_headCount := by decide +kernel
set_option maxHeartbeats 4000000 in
set_option maxRecDepth 100000 in
theorem b_X0_headCount {p : Program} {l : Launch} {e : Env} {s : State} {m : MethodId} {args : Array Value} {below : List Frame} {meth : Method} {c : Code} {Q : State → Prop} {A : Nat → Prop} {dC : Nat → ClassId} {dI : Nat → Nat → Nat} {cI cZ cG : ClassId} (hx : p.tables.exec = Jvm.exec) (hb : c.code = cX0_headCount) (hml : c.maxLocals = 3) (hown : s.vm.findClass RX0 = some m.cls) (hts : ∀ w ∈ wsX0_headCount, w.before args s = true) (hK : va_K (dC, dI) vwCl [(cI, .int), (cZ, .boolean), (cG, .array .int)] s) (hA : ∀ q : Nat, s.heap.size ≤ q → A q) (f0 : Nat) (f1 : Nat) (f2 : Nat) (f3 : Nat) (s0 : Nat) (ld : Option Nat) (ho : Nat) (lo : Option Nat) (ls1 : Nat) (he : Nat → Bool)   {H : Heap} {locs : List Loc} {ls : Array Slot} (hP : va_P (dC, dI) vwCl [(f0, .inr (0, [.ref f1, .ref f2, .ref f3, .ref s0, .int (oI ld), .int (nI ho), .int (oI lo), .int (nI ls1)])), (f1, .inl (cZ, 6, .inl (cB he)))] H) (hD : va_D A [(f0, .inr (0, [.ref f1, .ref f2, .ref f3, .ref s0, .int (oI ld), .int (nI ho), .int (oI lo), .int (nI ls1)])), (f1, .inl (cZ, 6, .inl (cB he)))]) (hS : va_S A s.heap H locs) (hl : lv_has ls 3 [(0, .ref f0)]) (kret : ∀ (pcr : Nat) (H : Heap) (locs : List Loc) (ls : Array Slot) , decode cX0_headCount pcr = .ok (.ireturn, 1) → va_P (dC, dI) vwCl [(f0, .inr (0, [.ref f1, .ref f2, .ref f3, .ref s0, .int (oI ld), .int (nI ho), .int (oI lo), .int (nI ls1)])), (f1, .inl (cZ, 6, .inl (cB he)))] H → va_D A [(f0, .inr (0, [.ref f1, .ref f2, .ref f3, .ref s0, .int (oI ld), .int (nI ho), .int (oI lo), .int (nI ls1)])), (f1, .inl (cZ, 6, .inl (cB he)))] → va_S A s.heap H locs → W p l e ({ frames := 0, cells := 0, slots := 0, locals := 0 } : Room) s m args below meth c H locs 0 0 Q (F0 m pcr ls [.int (nI (cntB he 6))])) : W p l e ({ frames := 0, cells := 0, slots := 0, locals := 0 } : Room) s m args below meth c H locs 0 0 Q (F0 m 0 ls []) := by
  refine lv_iconst (v := nI 0) hx hb dX0_headCount_0 (by decide) ?_
  refine lv_istore_n (lv' := [(1, .int (nI 0)), (0, .ref f0)]) hx hb dX0_headCount_1 rfl hl (by decide) rfl (fun ls hl => ?_)
  refine lv_iconst (v := nI 0) hx hb dX0_headCount_2 (by decide) ?_
  refine lv_istore_n (lv' := [(2, .int (nI 0)), (1, .int (nI 0)), (0, .ref f0)]) hx hb dX0_headCount_3 rfl hl (by decide) rfl (fun ls hl => ?_)
  have L4 : ∀ (n : Nat) (i : Nat) (hc : Nat) (H : Heap) (locs : List Loc) (ls : Array Slot), (i ≤ 6) → (hc = cntB he i) → (6 - i < n) → va_P (dC, dI) vwCl [(f0, .inr (0, [.ref f1, .ref f2, .ref f3, .ref s0, .int (oI ld), .int (nI ho), .int (oI lo), .int (nI ls1)])), (f1, .inl (cZ, 6, .inl (cB he)))] H → va_D A [(f0, .inr (0, [.ref f1, .ref f2, .ref f3, .ref s0, .int (oI ld), .int (nI ho), .int (oI lo), .int (nI ls1)])), (f1, .inl (cZ, 6, .inl (cB he)))] → va_S A s.heap H locs → lv_has ls 3 [(0, .ref f0), (1, .int (nI hc)), (2, .int (nI i))] → W p l e ({ frames := 0, cells := 0, slots := 0, locals := 0 } : Room) s m args below meth c H locs 0 0 Q (F0 m 4 ls []) := by
    intro n
    induction n with
    | zero =>
      intro i hc H locs ls hi hh hm
      exact absurd hm (Nat.not_lt_zero _)
    | succ n ih4 =>
      intro i hc H locs ls hi hh hm hP hD hS hl
      refine lv_iload_n hx hb dX0_headCount_4 rfl (lv_at hl 2 rfl) ?_
      refine lv_bipush (v := nI 6) hx hb dX0_headCount_5 (by decide) ?_
      have hcl := cntB_le he i
      refine q_ge (tgt := 28) hx hb (a := i) (b := 6) (by omega) (by omega) dX0_headCount_7 (by decide) (fun c7 => ?_) (fun c7 => ?_)
      · refine lv_iload_n hx hb dX0_headCount_28 rfl (lv_at hl 1 rfl) ?_
        have ev1 : nI hc = nI (cntB he 6) := by rw [hh, show i = 6 by omega]
        refine q_as ((show nI hc = nI hc from rfl).trans ev1) ?_
        refine kret 29 _ _ _   dX0_headCount_29 hP hD hS
      · refine lv_aload_n hx hb dX0_headCount_10 rfl (lv_at hl 0 rfl) ?_
        refine va_get (D := (dC, dI)) (ci := 0) (v := .ref f1) (C := RX0) (T := TX0) (N := 8) hx hb hts (wX0_headCount_X0_u) hown hK hP 0 rfl rfl 0 (by decide) (hts (.fieldLink RX0 9 "Confroom$Floor" "here" "[Z") (wX0_headCount_f9)) (fun _ h9 => h9) rfl dX0_headCount_11 ?_
        refine lv_iload_n hx hb dX0_headCount_14 rfl (lv_at hl 2 rfl) ?_
        refine q_zB hx hb hK hP 1 1 rfl rfl (k := i) (by omega) (by decide) dX0_headCount_15 ?_
        refine q_zeq (tgt := 22) hx hb (b := (he i)) dX0_headCount_16 (by decide) (fun c16 => ?_) (fun c16 => ?_)
        · refine lv_iinc (v := nI (i + 1)) (lv' := [(2, .int (nI (i + 1))), (0, .ref f0), (1, .int (nI hc))]) hx hb dX0_headCount_22 hl (k := 2) rfl (q_inc i 1) (by decide) rfl (fun ls hl => ?_)
          refine lv_goto (tgt := 4) hx hb dX0_headCount_25 (by decide) ?_
          refine ih4 (i + 1) hc _ _ _ ?_ ?_ (by omega) hP hD hS (lv_sub hl [1, 2, 0] rfl)
          · omega
          · first | rw [cntB_yes c16, hh] | rw [cntB_no c16, hh]
        · refine lv_iinc (v := nI (hc + 1)) (lv' := [(1, .int (nI (hc + 1))), (0, .ref f0), (2, .int (nI i))]) hx hb dX0_headCount_19 hl (k := 1) rfl (q_inc hc 1) (by decide) rfl (fun ls hl => ?_)
          refine lv_iinc (v := nI (i + 1)) (lv' := [(2, .int (nI (i + 1))), (1, .int (nI (hc + 1))), (0, .ref f0)]) hx hb dX0_headCount_22 hl (k := 2) rfl (q_inc i 1) (by decide) rfl (fun ls hl => ?_)
          refine lv_goto (tgt := 4) hx hb dX0_headCount_25 (by decide) ?_
          refine ih4 (i + 1) (hc + 1) _ _ _ ?_ ?_ (by omega) hP hD hS (lv_sub hl [2, 1, 0] rfl)
          · omega
          · first | rw [cntB_yes c16, hh] | rw [cntB_no c16, hh]
  refine L4 _ 0 0 _ _ _ ?_ ?_ (Nat.lt_succ_self _) hP hD hS (lv_sub hl [2, 1, 0] rfl)
  · omega
  · rfl

set_option maxHeartbeats 4000000 in
set_option maxRecDepth 100000 in
theorem c_X0_headCount (l : Launch) (dC : Nat → ClassId) (dI : Nat → Nat → Nat) (cI cZ cG : ClassId) (f0 : Nat) (f1 : Nat) (f2 : Nat) (f3 : Nat) (s0 : Nat) (ld : Option Nat) (ho : Nat) (lo : Option Nat) (ls1 : Nat) (he : Nat → Bool) (sz : Nat)  : Met l yX0_headCount wsX0_headCount ({ frames := 0, cells := 0, slots := 0, locals := 0 } : Room) (va_Pc [.ref f0] (fun U => U.heap.size = sz ∧ va_P (dC, dI) vwCl [(f0, .inr (0, [.ref f1, .ref f2, .ref f3, .ref s0, .int (oI ld), .int (nI ho), .int (oI lo), .int (nI ls1)])), (f1, .inl (cZ, 6, .inl (cB he)))] U.heap ∧ va_K (dC, dI) vwCl [(cI, .int), (cZ, .boolean), (cG, .array .int)] U ∧ va_D (fun _ => True) [(f0, .inr (0, [.ref f1, .ref f2, .ref f3, .ref s0, .int (oI ld), .int (nI ho), .int (oI lo), .int (nI ls1)])), (f1, .inl (cZ, 6, .inl (cB he)))])) (va_Qi (fun (r u : Int32) => r = u) (fun (u : Int32) t => u = nI (cntB he 6) ∧ va_P (dC, dI) vwCl [(f0, .inr (0, [.ref f1, .ref f2, .ref f3, .ref s0, .int (oI ld), .int (nI ho), .int (oI lo), .int (nI ls1)])), (f1, .inl (cZ, 6, .inl (cB he)))] t.heap ∧ va_D (va_A [(f0, .inr (0, [.ref f1, .ref f2, .ref f3, .ref s0, .int (oI ld), .int (nI ho), .int (oI lo), .int (nI ls1)])), (f1, .inl (cZ, 6, .inl (cB he)))] sz) [(f0, .inr (0, [.ref f1, .ref f2, .ref f3, .ref s0, .int (oI ld), .int (nI ho), .int (oI lo), .int (nI ls1)])), (f1, .inl (cZ, 6, .inl (cB he)))]) (va_A [(f0, .inr (0, [.ref f1, .ref f2, .ref f3, .ref s0, .int (oI ld), .int (nI ho), .int (oI lo), .int (nI ls1)])), (f1, .inl (cZ, 6, .inl (cB he)))] sz)) 0 0 (va_A [(f0, .inr (0, [.ref f1, .ref f2, .ref f3, .ref s0, .int (oI ld), .int (nI ho), .int (oI lo), .int (nI ls1)])), (f1, .inl (cZ, 6, .inl (cB he)))] sz) := by
  refine Met.ofW (cc := cX0_headCount) (maxL := 3) (ret := (some .int)) (by decide) rfl ?_
  intro p e s m args below meth c s₁ B hml hv
  obtain ⟨rfl, hsz, hP, hK, hD0⟩ := hv
  have hts := atoms_spec (ws := wsX0_headCount) B.pre
  have hown : s.vm.findClass RX0 = some m.cls := findClass_of_methodNamed B.named
  have hlocks := B.notSynchronized
  subst hsz
  have hD := hD0.self (sz := s.heap.size)
  have hA : ∀ q : Nat, s.heap.size ≤ q → va_A [(f0, .inr (0, [.ref f1, .ref f2, .ref f3, .ref s0, .int (oI ld), .int (nI ho), .int (oI lo), .int (nI ls1)])), (f1, .inl (cZ, 6, .inl (cB he)))] s.heap.size q := fun q h => Or.inr h
  have hl := lv_entry ([.ref f0]) (n := 3) (Nat.le_of_ble_eq_true rfl)
  rw [lg_entry_eq]
  generalize (lg_sl ([.ref f0]) ++ List.replicate (3 - (lg_sl ([.ref f0])).length) Slot.unset).toArray = ls at hl ⊢
  have hl : lv_has ls 3 [(0, .ref f0)] := hl
  have hx := B.exec
  have hb := B.bytes
  exact b_X0_headCount hx hb hml hown hts hK hA f0 f1 f2 f3 s0 ld ho lo ls1 he   hP hD va_S.rf hl (fun pcr H locs ls   hd hP hD hS => W.iret hx hb B.returns (fun t ht hW => ⟨⟨_, _, rfl, rfl, rfl, by rw [ht]; exact hP, hD⟩, hS.F ht⟩) hS.2.2 hd)
theorem wX0_freeSeat_f9 : Cond.fieldLink RX0 9 "Confroom$Floor" "here" "[Z" ∈ wsX0_freeSeat := by decide +kernel
theorem wX0_freeSeat_X0_u : ∀ w ∈ u_ws RX0 TX0 8, w ∈ wsX0_freeSeat := by decide +kernel
set_option maxHeartbeats 4000000 in
set_option maxRecDepth 100000 in
theorem b_X0_freeSeat {p : Program} {l : Launch} {e : Env} {s : State} {m : MethodId} {args : Array Value} {below : List Frame} {meth : Method} {c : Code} {Q : State → Prop} {A : Nat → Prop} {dC : Nat → ClassId} {dI : Nat → Nat → Nat} {cI cZ cG : ClassId} (hx : p.tables.exec = Jvm.exec) (hb : c.code = cX0_freeSeat) (hml : c.maxLocals = 2) (hown : s.vm.findClass RX0 = some m.cls) (hts : ∀ w ∈ wsX0_freeSeat, w.before args s = true) (hK : va_K (dC, dI) vwCl [(cI, .int), (cZ, .boolean), (cG, .array .int)] s) (hA : ∀ q : Nat, s.heap.size ≤ q → A q) (f0 : Nat) (f1 : Nat) (f2 : Nat) (f3 : Nat) (s0 : Nat) (ld : Option Nat) (ho : Nat) (lo : Option Nat) (ls1 : Nat) (he : Nat → Bool)   {H : Heap} {locs : List Loc} {ls : Array Slot} (hP : va_P (dC, dI) vwCl [(f0, .inr (0, [.ref f1, .ref f2, .ref f3, .ref s0, .int (oI ld), .int (nI ho), .int (oI lo), .int (nI ls1)])), (f1, .inl (cZ, 6, .inl (cB he)))] H) (hD : va_D A [(f0, .inr (0, [.ref f1, .ref f2, .ref f3, .ref s0, .int (oI ld), .int (nI ho), .int (oI lo), .int (nI ls1)])), (f1, .inl (cZ, 6, .inl (cB he)))]) (hS : va_S A s.heap H locs) (hl : lv_has ls 2 [(0, .ref f0)]) (kret : ∀ (pcr : Nat) (H : Heap) (locs : List Loc) (ls : Array Slot) (so : Option Nat), (so = freeS he) → decode cX0_freeSeat pcr = .ok (.ireturn, 1) → va_P (dC, dI) vwCl [(f0, .inr (0, [.ref f1, .ref f2, .ref f3, .ref s0, .int (oI ld), .int (nI ho), .int (oI lo), .int (nI ls1)])), (f1, .inl (cZ, 6, .inl (cB he)))] H → va_D A [(f0, .inr (0, [.ref f1, .ref f2, .ref f3, .ref s0, .int (oI ld), .int (nI ho), .int (oI lo), .int (nI ls1)])), (f1, .inl (cZ, 6, .inl (cB he)))] → va_S A s.heap H locs → W p l e ({ frames := 0, cells := 0, slots := 0, locals := 0 } : Room) s m args below meth c H locs 0 0 Q (F0 m pcr ls [.int (oI so)])) : W p l e ({ frames := 0, cells := 0, slots := 0, locals := 0 } : Room) s m args below meth c H locs 0 0 Q (F0 m 0 ls []) := by
  refine lv_iconst (v := nI 0) hx hb dX0_freeSeat_0 (by decide) ?_
  refine lv_istore_n (lv' := [(1, .int (nI 0)), (0, .ref f0)]) hx hb dX0_freeSeat_1 rfl hl (by decide) rfl (fun ls hl => ?_)
  have L2 : ∀ (n : Nat) (i : Nat) (H : Heap) (locs : List Loc) (ls : Array Slot), (i ≤ 6) → (∀ j, j < i → he j = true) → (6 - i < n) → va_P (dC, dI) vwCl [(f0, .inr (0, [.ref f1, .ref f2, .ref f3, .ref s0, .int (oI ld), .int (nI ho), .int (oI lo), .int (nI ls1)])), (f1, .inl (cZ, 6, .inl (cB he)))] H → va_D A [(f0, .inr (0, [.ref f1, .ref f2, .ref f3, .ref s0, .int (oI ld), .int (nI ho), .int (oI lo), .int (nI ls1)])), (f1, .inl (cZ, 6, .inl (cB he)))] → va_S A s.heap H locs → lv_has ls 2 [(0, .ref f0), (1, .int (nI i))] → W p l e ({ frames := 0, cells := 0, slots := 0, locals := 0 } : Room) s m args below meth c H locs 0 0 Q (F0 m 2 ls []) := by
    intro n
    induction n with
    | zero =>
      intro i H locs ls hi hh hm
      exact absurd hm (Nat.not_lt_zero _)
    | succ n ih2 =>
      intro i H locs ls hi hh hm hP hD hS hl
      refine lv_iload_n hx hb dX0_freeSeat_2 rfl (lv_at hl 1 rfl) ?_
      refine lv_bipush (v := nI 6) hx hb dX0_freeSeat_3 (by decide) ?_
      refine q_ge (tgt := 25) hx hb (a := i) (b := 6) (by omega) (by omega) dX0_freeSeat_5 (by decide) (fun c5 => ?_) (fun c5 => ?_)
      · refine lv_iconst (v := oI none) hx hb dX0_freeSeat_25 (by decide) ?_
        refine kret 26 _ _ _ none ?_ dX0_freeSeat_26 hP hD hS
        · exact (freeS_none (fun j hj => hh j (by omega))).symm
      · refine lv_aload_n hx hb dX0_freeSeat_8 rfl (lv_at hl 0 rfl) ?_
        refine va_get (D := (dC, dI)) (ci := 0) (v := .ref f1) (C := RX0) (T := TX0) (N := 8) hx hb hts (wX0_freeSeat_X0_u) hown hK hP 0 rfl rfl 0 (by decide) (hts (.fieldLink RX0 9 "Confroom$Floor" "here" "[Z") (wX0_freeSeat_f9)) (fun _ h9 => h9) rfl dX0_freeSeat_9 ?_
        refine lv_iload_n hx hb dX0_freeSeat_12 rfl (lv_at hl 1 rfl) ?_
        refine q_zB hx hb hK hP 1 1 rfl rfl (k := i) (by omega) (by decide) dX0_freeSeat_13 ?_
        refine q_zne (tgt := 19) hx hb (b := (he i)) dX0_freeSeat_14 (by decide) (fun c14 => ?_) (fun c14 => ?_)
        · refine lv_iinc (v := nI (i + 1)) (lv' := [(1, .int (nI (i + 1))), (0, .ref f0)]) hx hb dX0_freeSeat_19 hl (k := 1) rfl (q_inc i 1) (by decide) rfl (fun ls hl => ?_)
          refine lv_goto (tgt := 2) hx hb dX0_freeSeat_22 (by decide) ?_
          refine ih2 (i + 1) _ _ _ ?_ ?_ (by omega) hP hD hS (lv_sub hl [1, 0] rfl)
          · omega
          · intro j hj
            by_cases e9 : j = i
            · rw [e9]; exact c14
            · exact hh j (by omega)
        · refine lv_iload_n hx hb dX0_freeSeat_17 rfl (lv_at hl 1 rfl) ?_
          refine q_as (show nI i = oI (some i) from rfl) ?_
          refine kret 18 _ _ _ (some i) ?_ dX0_freeSeat_18 hP hD hS
          · exact (freeS_some c5 hh c14).symm
  refine L2 _ 0 _ _ _ ?_ ?_ (Nat.lt_succ_self _) hP hD hS (lv_sub hl [1, 0] rfl)
  · omega
  · intro j hj; exact absurd hj (Nat.not_lt_zero _)

set_option maxHeartbeats 4000000 in
set_option maxRecDepth 100000 in
theorem c_X0_freeSeat (l : Launch) (dC : Nat → ClassId) (dI : Nat → Nat → Nat) (cI cZ cG : ClassId) (f0 : Nat) (f1 : Nat) (f2 : Nat) (f3 : Nat) (s0 : Nat) (ld : Option Nat) (ho : Nat) (lo : Option Nat) (ls1 : Nat) (he : Nat → Bool) (sz : Nat)  : Met l yX0_freeSeat wsX0_freeSeat ({ frames := 0, cells := 0, slots := 0, locals := 0 } : Room) (va_Pc [.ref f0] (fun U => U.heap.size = sz ∧ va_P (dC, dI) vwCl [(f0, .inr (0, [.ref f1, .ref f2, .ref f3, .ref s0, .int (oI ld), .int (nI ho), .int (oI lo), .int (nI ls1)])), (f1, .inl (cZ, 6, .inl (cB he)))] U.heap ∧ va_K (dC, dI) vwCl [(cI, .int), (cZ, .boolean), (cG, .array .int)] U ∧ va_D (fun _ => True) [(f0, .inr (0, [.ref f1, .ref f2, .ref f3, .ref s0, .int (oI ld), .int (nI ho), .int (oI lo), .int (nI ls1)])), (f1, .inl (cZ, 6, .inl (cB he)))])) (va_Qi (fun (r u : Int32) => r = u) (fun (u : Int32) t => ∃ (so : Option Nat), (so = freeS he) ∧ u = oI so ∧ va_P (dC, dI) vwCl [(f0, .inr (0, [.ref f1, .ref f2, .ref f3, .ref s0, .int (oI ld), .int (nI ho), .int (oI lo), .int (nI ls1)])), (f1, .inl (cZ, 6, .inl (cB he)))] t.heap ∧ va_D (va_A [(f0, .inr (0, [.ref f1, .ref f2, .ref f3, .ref s0, .int (oI ld), .int (nI ho), .int (oI lo), .int (nI ls1)])), (f1, .inl (cZ, 6, .inl (cB he)))] sz) [(f0, .inr (0, [.ref f1, .ref f2, .ref f3, .ref s0, .int (oI ld), .int (nI ho), .int (oI lo), .int (nI ls1)])), (f1, .inl (cZ, 6, .inl (cB he)))]) (va_A [(f0, .inr (0, [.ref f1, .ref f2, .ref f3, .ref s0, .int (oI ld), .int (nI ho), .int (oI lo), .int (nI ls1)])), (f1, .inl (cZ, 6, .inl (cB he)))] sz)) 0 0 (va_A [(f0, .inr (0, [.ref f1, .ref f2, .ref f3, .ref s0, .int (oI ld), .int (nI ho), .int (oI lo), .int (nI ls1)])), (f1, .inl (cZ, 6, .inl (cB he)))] sz) := by
  refine Met.ofW (cc := cX0_freeSeat) (maxL := 2) (ret := (some .int)) (by decide) rfl ?_
  intro p e s m args below meth c s₁ B hml hv
  obtain ⟨rfl, hsz, hP, hK, hD0⟩ := hv
  have hts := atoms_spec (ws := wsX0_freeSeat) B.pre
  have hown : s.vm.findClass RX0 = some m.cls := findClass_of_methodNamed B.named
  have hlocks := B.notSynchronized
  subst hsz
  have hD := hD0.self (sz := s.heap.size)
  have hA : ∀ q : Nat, s.heap.size ≤ q → va_A [(f0, .inr (0, [.ref f1, .ref f2, .ref f3, .ref s0, .int (oI ld), .int (nI ho), .int (oI lo), .int (nI ls1)])), (f1, .inl (cZ, 6, .inl (cB he)))] s.heap.size q := fun q h => Or.inr h
  have hl := lv_entry ([.ref f0]) (n := 2) (Nat.le_of_ble_eq_true rfl)
  rw [lg_entry_eq]
  generalize (lg_sl ([.ref f0]) ++ List.replicate (2 - (lg_sl ([.ref f0])).length) Slot.unset).toArray = ls at hl ⊢
  have hl : lv_has ls 2 [(0, .ref f0)] := hl
  have hx := B.exec
  have hb := B.bytes
  exact b_X0_freeSeat hx hb hml hown hts hK hA f0 f1 f2 f3 s0 ld ho lo ls1 he   hP hD va_S.rf hl (fun pcr H locs ls so hp0 hd hP hD hS => W.iret hx hb B.returns (fun t ht hW => ⟨⟨_, _, rfl, rfl, so, hp0, rfl, by rw [ht]; exact hP, hD⟩, hS.F ht⟩) hS.2.2 hd)
theorem wX0_enter_f15 : Cond.fieldLink RX0 15 "Confroom$Floor" "level" "[I" ∈ wsX0_enter := by decide +kernel
theorem wX0_enter_f19 : Cond.fieldLink RX0 19 "Confroom$Floor" "muted" "[Z" ∈ wsX0_enter := by decide +kernel
theorem wX0_enter_f9 : Cond.fieldLink RX0 9 "Confroom$Floor" "here" "[Z" ∈ wsX0_enter := by decide +kernel
theorem wX0_enter_X0_u : ∀ w ∈ u_ws RX0 TX0 8, w ∈ wsX0_enter := by decide +kernel
set_option maxHeartbeats 4000000 in
set_option maxRecDepth 100000 in
theorem b_X0_enter {p : Program} {l : Launch} {e : Env} {s : State} {m : MethodId} {args : Array Value} {below : List Frame} {meth : Method} {c : Code} {Q : State → Prop} {A : Nat → Prop} {dC : Nat → ClassId} {dI : Nat → Nat → Nat} {cI cZ cG : ClassId} (hx : p.tables.exec = Jvm.exec) (hb : c.code = cX0_enter) (hml : c.maxLocals = 2) (hown : s.vm.findClass RX0 = some m.cls) (hts : ∀ w ∈ wsX0_enter, w.before args s = true) (hK : va_K (dC, dI) vwCl [(cI, .int), (cZ, .boolean), (cG, .array .int)] s) (hA : ∀ q : Nat, s.heap.size ≤ q → A q) (f0 : Nat) (f1 : Nat) (f2 : Nat) (f3 : Nat) (s0 : Nat) (ld : Option Nat) (ho : Nat) (lo : Option Nat) (ls1 : Nat) (he : Nat → Bool) (lv : Nat → Nat) (mu : Nat → Bool) (pe : Nat) (hp : pe < 6)  {H : Heap} {locs : List Loc} {ls : Array Slot} (hP : va_P (dC, dI) vwCl [(f0, .inr (0, [.ref f1, .ref f2, .ref f3, .ref s0, .int (oI ld), .int (nI ho), .int (oI lo), .int (nI ls1)])), (f1, .inl (cZ, 6, .inl (cB he))), (f2, .inl (cI, 6, .inl (cN lv))), (f3, .inl (cZ, 6, .inl (cB mu)))] H) (hD : va_D A [(f0, .inr (0, [.ref f1, .ref f2, .ref f3, .ref s0, .int (oI ld), .int (nI ho), .int (oI lo), .int (nI ls1)])), (f1, .inl (cZ, 6, .inl (cB he))), (f2, .inl (cI, 6, .inl (cN lv))), (f3, .inl (cZ, 6, .inl (cB mu)))]) (hS : va_S A s.heap H locs) (hl : lv_has ls 2 [(0, .ref f0), (1, .int (nI pe))]) (kret : ∀ (pcr : Nat) (H : Heap) (locs : List Loc) (ls : Array Slot) , decode cX0_enter pcr = .ok (.return_, 1) → va_P (dC, dI) vwCl [(f0, .inr (0, [.ref f1, .ref f2, .ref f3, .ref s0, .int (oI ld), .int (nI ho), .int (oI lo), .int (nI ls1)])), (f1, .inl (cZ, 6, .inl (cB (va_up he pe true)))), (f2, .inl (cI, 6, .inl (cN (va_up lv pe 0)))), (f3, .inl (cZ, 6, .inl (cB (va_up mu pe false))))] H → va_D A [(f0, .inr (0, [.ref f1, .ref f2, .ref f3, .ref s0, .int (oI ld), .int (nI ho), .int (oI lo), .int (nI ls1)])), (f1, .inl (cZ, 6, .inl (cB (va_up he pe true)))), (f2, .inl (cI, 6, .inl (cN (va_up lv pe 0)))), (f3, .inl (cZ, 6, .inl (cB (va_up mu pe false))))] → va_S A s.heap H locs → W p l e ({ frames := 0, cells := 0, slots := 0, locals := 0 } : Room) s m args below meth c H locs 0 0 Q (F0 m pcr ls [])) : W p l e ({ frames := 0, cells := 0, slots := 0, locals := 0 } : Room) s m args below meth c H locs 0 0 Q (F0 m 0 ls []) := by
  refine lv_aload_n hx hb dX0_enter_0 rfl (lv_at hl 0 rfl) ?_
  refine va_get (D := (dC, dI)) (ci := 0) (v := .ref f1) (C := RX0) (T := TX0) (N := 8) hx hb hts (wX0_enter_X0_u) hown hK hP 0 rfl rfl 0 (by decide) (hts (.fieldLink RX0 9 "Confroom$Floor" "here" "[Z") (wX0_enter_f9)) (fun _ h9 => h9) rfl dX0_enter_1 ?_
  refine lv_iload_n hx hb dX0_enter_4 rfl (lv_at hl 1 rfl) ?_
  refine lv_iconst (v := nI 1) hx hb dX0_enter_5 (by decide) ?_
  refine q_sB hx hb hK hP hD hS 1 1 rfl rfl (k := pe) (x := true) (by omega) (by decide) dX0_enter_6 (fun H locs hP hD hS => ?_)
  have hP : va_P (dC, dI) vwCl [(f0, .inr (0, [.ref f1, .ref f2, .ref f3, .ref s0, .int (oI ld), .int (nI ho), .int (oI lo), .int (nI ls1)])), (f1, .inl (cZ, 6, .inl (cB (va_up he pe true)))), (f2, .inl (cI, 6, .inl (cN lv))), (f3, .inl (cZ, 6, .inl (cB mu)))] H := hP
  have hD : va_D A [(f0, .inr (0, [.ref f1, .ref f2, .ref f3, .ref s0, .int (oI ld), .int (nI ho), .int (oI lo), .int (nI ls1)])), (f1, .inl (cZ, 6, .inl (cB (va_up he pe true)))), (f2, .inl (cI, 6, .inl (cN lv))), (f3, .inl (cZ, 6, .inl (cB mu)))] := hD
  refine lv_aload_n hx hb dX0_enter_7 rfl (lv_at hl 0 rfl) ?_
  refine va_get (D := (dC, dI)) (ci := 0) (v := .ref f2) (C := RX0) (T := TX0) (N := 8) hx hb hts (wX0_enter_X0_u) hown hK hP 0 rfl rfl 1 (by decide) (hts (.fieldLink RX0 15 "Confroom$Floor" "level" "[I") (wX0_enter_f15)) (fun _ h9 => h9) rfl dX0_enter_8 ?_
  refine lv_iload_n hx hb dX0_enter_11 rfl (lv_at hl 1 rfl) ?_
  refine lv_iconst (v := nI 0) hx hb dX0_enter_12 (by decide) ?_
  refine q_sN hx hb hK hP hD hS 2 0 rfl rfl (k := pe) (x := 0) (by omega) (by decide) dX0_enter_13 (fun H locs hP hD hS => ?_)
  have hP : va_P (dC, dI) vwCl [(f0, .inr (0, [.ref f1, .ref f2, .ref f3, .ref s0, .int (oI ld), .int (nI ho), .int (oI lo), .int (nI ls1)])), (f1, .inl (cZ, 6, .inl (cB (va_up he pe true)))), (f2, .inl (cI, 6, .inl (cN (va_up lv pe 0)))), (f3, .inl (cZ, 6, .inl (cB mu)))] H := hP
  have hD : va_D A [(f0, .inr (0, [.ref f1, .ref f2, .ref f3, .ref s0, .int (oI ld), .int (nI ho), .int (oI lo), .int (nI ls1)])), (f1, .inl (cZ, 6, .inl (cB (va_up he pe true)))), (f2, .inl (cI, 6, .inl (cN (va_up lv pe 0)))), (f3, .inl (cZ, 6, .inl (cB mu)))] := hD
  refine lv_aload_n hx hb dX0_enter_14 rfl (lv_at hl 0 rfl) ?_
  refine va_get (D := (dC, dI)) (ci := 0) (v := .ref f3) (C := RX0) (T := TX0) (N := 8) hx hb hts (wX0_enter_X0_u) hown hK hP 0 rfl rfl 2 (by decide) (hts (.fieldLink RX0 19 "Confroom$Floor" "muted" "[Z") (wX0_enter_f19)) (fun _ h9 => h9) rfl dX0_enter_15 ?_
  refine lv_iload_n hx hb dX0_enter_18 rfl (lv_at hl 1 rfl) ?_
  refine lv_iconst (v := nI 0) hx hb dX0_enter_19 (by decide) ?_
  refine q_sB hx hb hK hP hD hS 3 1 rfl rfl (k := pe) (x := false) (by omega) (by decide) dX0_enter_20 (fun H locs hP hD hS => ?_)
  have hP : va_P (dC, dI) vwCl [(f0, .inr (0, [.ref f1, .ref f2, .ref f3, .ref s0, .int (oI ld), .int (nI ho), .int (oI lo), .int (nI ls1)])), (f1, .inl (cZ, 6, .inl (cB (va_up he pe true)))), (f2, .inl (cI, 6, .inl (cN (va_up lv pe 0)))), (f3, .inl (cZ, 6, .inl (cB (va_up mu pe false))))] H := hP
  have hD : va_D A [(f0, .inr (0, [.ref f1, .ref f2, .ref f3, .ref s0, .int (oI ld), .int (nI ho), .int (oI lo), .int (nI ls1)])), (f1, .inl (cZ, 6, .inl (cB (va_up he pe true)))), (f2, .inl (cI, 6, .inl (cN (va_up lv pe 0)))), (f3, .inl (cZ, 6, .inl (cB (va_up mu pe false))))] := hD
  refine kret 21 _ _ _   dX0_enter_21 hP hD hS

set_option maxHeartbeats 4000000 in
set_option maxRecDepth 100000 in
theorem c_X0_enter (l : Launch) (dC : Nat → ClassId) (dI : Nat → Nat → Nat) (cI cZ cG : ClassId) (f0 : Nat) (f1 : Nat) (f2 : Nat) (f3 : Nat) (s0 : Nat) (ld : Option Nat) (ho : Nat) (lo : Option Nat) (ls1 : Nat) (he : Nat → Bool) (lv : Nat → Nat) (mu : Nat → Bool) (pe : Nat) (sz : Nat) (hp : pe < 6) : Met l yX0_enter wsX0_enter ({ frames := 0, cells := 0, slots := 0, locals := 0 } : Room) (va_Pc [.ref f0, .int (nI pe)] (fun U => U.heap.size = sz ∧ va_P (dC, dI) vwCl [(f0, .inr (0, [.ref f1, .ref f2, .ref f3, .ref s0, .int (oI ld), .int (nI ho), .int (oI lo), .int (nI ls1)])), (f1, .inl (cZ, 6, .inl (cB he))), (f2, .inl (cI, 6, .inl (cN lv))), (f3, .inl (cZ, 6, .inl (cB mu)))] U.heap ∧ va_K (dC, dI) vwCl [(cI, .int), (cZ, .boolean), (cG, .array .int)] U ∧ va_D (fun _ => True) [(f0, .inr (0, [.ref f1, .ref f2, .ref f3, .ref s0, .int (oI ld), .int (nI ho), .int (oI lo), .int (nI ls1)])), (f1, .inl (cZ, 6, .inl (cB he))), (f2, .inl (cI, 6, .inl (cN lv))), (f3, .inl (cZ, 6, .inl (cB mu)))])) (va_Qv (fun (_ : Unit) => True) (fun (_ : Unit) t => va_P (dC, dI) vwCl [(f0, .inr (0, [.ref f1, .ref f2, .ref f3, .ref s0, .int (oI ld), .int (nI ho), .int (oI lo), .int (nI ls1)])), (f1, .inl (cZ, 6, .inl (cB (va_up he pe true)))), (f2, .inl (cI, 6, .inl (cN (va_up lv pe 0)))), (f3, .inl (cZ, 6, .inl (cB (va_up mu pe false))))] t.heap ∧ va_D (va_A [(f0, .inr (0, [.ref f1, .ref f2, .ref f3, .ref s0, .int (oI ld), .int (nI ho), .int (oI lo), .int (nI ls1)])), (f1, .inl (cZ, 6, .inl (cB he))), (f2, .inl (cI, 6, .inl (cN lv))), (f3, .inl (cZ, 6, .inl (cB mu)))] sz) [(f0, .inr (0, [.ref f1, .ref f2, .ref f3, .ref s0, .int (oI ld), .int (nI ho), .int (oI lo), .int (nI ls1)])), (f1, .inl (cZ, 6, .inl (cB (va_up he pe true)))), (f2, .inl (cI, 6, .inl (cN (va_up lv pe 0)))), (f3, .inl (cZ, 6, .inl (cB (va_up mu pe false))))]) (va_A [(f0, .inr (0, [.ref f1, .ref f2, .ref f3, .ref s0, .int (oI ld), .int (nI ho), .int (oI lo), .int (nI ls1)])), (f1, .inl (cZ, 6, .inl (cB he))), (f2, .inl (cI, 6, .inl (cN lv))), (f3, .inl (cZ, 6, .inl (cB mu)))] sz)) 0 0 (va_A [(f0, .inr (0, [.ref f1, .ref f2, .ref f3, .ref s0, .int (oI ld), .int (nI ho), .int (oI lo), .int (nI ls1)])), (f1, .inl (cZ, 6, .inl (cB he))), (f2, .inl (cI, 6, .inl (cN lv))), (f3, .inl (cZ, 6, .inl (cB mu)))] sz) := by
  refine Met.ofW (cc := cX0_enter) (maxL := 2) (ret := none) (by decide) rfl ?_
  intro p e s m args below meth c s₁ B hml hv
  obtain ⟨rfl, hsz, hP, hK, hD0⟩ := hv
  have hts := atoms_spec (ws := wsX0_enter) B.pre
  have hown : s.vm.findClass RX0 = some m.cls := findClass_of_methodNamed B.named
  have hlocks := B.notSynchronized
  subst hsz
  have hD := hD0.self (sz := s.heap.size)
  have hA : ∀ q : Nat, s.heap.size ≤ q → va_A [(f0, .inr (0, [.ref f1, .ref f2, .ref f3, .ref s0, .int (oI ld), .int (nI ho), .int (oI lo), .int (nI ls1)])), (f1, .inl (cZ, 6, .inl (cB he))), (f2, .inl (cI, 6, .inl (cN lv))), (f3, .inl (cZ, 6, .inl (cB mu)))] s.heap.size q := fun q h => Or.inr h
  have hl := lv_entry ([.ref f0, .int (nI pe)]) (n := 2) (Nat.le_of_ble_eq_true rfl)
  rw [lg_entry_eq]
  generalize (lg_sl ([.ref f0, .int (nI pe)]) ++ List.replicate (2 - (lg_sl ([.ref f0, .int (nI pe)])).length) Slot.unset).toArray = ls at hl ⊢
  have hl : lv_has ls 2 [(0, .ref f0), (1, .int (nI pe))] := hl
  have hx := B.exec
  have hb := B.bytes
  exact b_X0_enter hx hb hml hown hts hK hA f0 f1 f2 f3 s0 ld ho lo ls1 he lv mu pe hp  hP hD va_S.rf hl (fun pcr H locs ls   hd hP hD hS => W.vret hx hb B.returns (fun t ht hW => ⟨⟨(), rfl, trivial, by rw [ht]; exact hP, hD⟩, hS.F ht⟩) hS.2.2 hd)
theorem wX0_forget_f25 : Cond.fieldLink RX0 25 "Confroom$Floor" "spoke" "LConfroom$Line;" ∈ wsX0_forget := by decide +kernel
theorem wX0_forget_f29 : Cond.fieldLink RX0 29 "Confroom$Floor" "leader" "I" ∈ wsX0_forget := by decide +kernel
theorem wX0_forget_f36 : Cond.fieldLink RX0 36 "Confroom$Floor" "loudest" "I" ∈ wsX0_forget := by decide +kernel
theorem wX0_forget_f9 : Cond.fieldLink RX0 9 "Confroom$Floor" "here" "[Z" ∈ wsX0_forget := by decide +kernel
theorem wX0_forget_X0_u : ∀ w ∈ u_ws RX0 TX0 8, w ∈ wsX0_forget := by decide +kernel
set_option maxHeartbeats 4000000 in
set_option maxRecDepth 100000 in
theorem b_X0_forget {p : Program} {l : Launch} {e : Env} {s : State} {m : MethodId} {args : Array Value} {below : List Frame} {meth : Method} {c : Code} {Q : State → Prop} {A : Nat → Prop} {dC : Nat → ClassId} {dI : Nat → Nat → Nat} {cI cZ cG : ClassId} (hx : p.tables.exec = Jvm.exec) (hb : c.code = cX0_forget) (hml : c.maxLocals = 2) (hown : s.vm.findClass RX0 = some m.cls) (hts : ∀ w ∈ wsX0_forget, w.before args s = true) (hK : va_K (dC, dI) vwCl [(cI, .int), (cZ, .boolean), (cG, .array .int)] s) (hA : ∀ q : Nat, s.heap.size ≤ q → A q) (f0 : Nat) (f1 : Nat) (f2 : Nat) (f3 : Nat) (s0 : Nat) (ld : Option Nat) (ho : Nat) (lo : Option Nat) (ls1 : Nat) (s1 : Nat) (he : Nat → Bool) (spr : Nat → Nat) (sp : List Nat) (pe : Nat) (hp : pe < 6) (hr : lrep spr sp) (hld : ∀ j, ld = some j → j < 6) (hlo : ∀ j, lo = some j → j < 6)  {H : Heap} {locs : List Loc} {ls : Array Slot} (hP : va_P (dC, dI) vwCl [(f0, .inr (0, [.ref f1, .ref f2, .ref f3, .ref s0, .int (oI ld), .int (nI ho), .int (oI lo), .int (nI ls1)])), (f1, .inl (cZ, 6, .inl (cB he))), (s0, .inr (1, [.ref s1, .int (nI sp.length)])), (s1, .inl (cI, 6, .inl (cN spr)))] H) (hD : va_D A [(f0, .inr (0, [.ref f1, .ref f2, .ref f3, .ref s0, .int (oI ld), .int (nI ho), .int (oI lo), .int (nI ls1)])), (f1, .inl (cZ, 6, .inl (cB he))), (s0, .inr (1, [.ref s1, .int (nI sp.length)])), (s1, .inl (cI, 6, .inl (cN spr)))]) (hS : va_S A s.heap H locs) (hl : lv_has ls 2 [(0, .ref f0), (1, .int (nI pe))]) (kret : ∀ (pcr : Nat) (H : Heap) (locs : List Loc) (ls : Array Slot) (spr2 : Nat → Nat), (lrep spr2 (dropL sp pe)) → decode cX0_forget pcr = .ok (.return_, 1) → va_P (dC, dI) vwCl [(f0, .inr (0, [.ref f1, .ref f2, .ref f3, .ref s0, .int (oI (remO ld pe)), .int (nI ho), .int (oI (remO lo pe)), .int (nI ls1)])), (f1, .inl (cZ, 6, .inl (cB (va_up he pe false)))), (s0, .inr (1, [.ref s1, .int (nI ((dropL sp pe).length))])), (s1, .inl (cI, 6, .inl (cN spr2)))] H → va_D A [(f0, .inr (0, [.ref f1, .ref f2, .ref f3, .ref s0, .int (oI (remO ld pe)), .int (nI ho), .int (oI (remO lo pe)), .int (nI ls1)])), (f1, .inl (cZ, 6, .inl (cB (va_up he pe false)))), (s0, .inr (1, [.ref s1, .int (nI ((dropL sp pe).length))])), (s1, .inl (cI, 6, .inl (cN spr2)))] → va_S A s.heap H locs → W p l e ({ frames := 1, cells := 0, slots := 0, locals := 23 } : Room) s m args below meth c H locs 0 0 Q (F0 m pcr ls [])) : W p l e ({ frames := 1, cells := 0, slots := 0, locals := 23 } : Room) s m args below meth c H locs 0 0 Q (F0 m 0 ls []) := by
  refine lv_aload_n hx hb dX0_forget_0 rfl (lv_at hl 0 rfl) ?_
  refine va_get (D := (dC, dI)) (ci := 0) (v := .ref f1) (C := RX0) (T := TX0) (N := 8) hx hb hts (wX0_forget_X0_u) hown hK hP 0 rfl rfl 0 (by decide) (hts (.fieldLink RX0 9 "Confroom$Floor" "here" "[Z") (wX0_forget_f9)) (fun _ h9 => h9) rfl dX0_forget_1 ?_
  refine lv_iload_n hx hb dX0_forget_4 rfl (lv_at hl 1 rfl) ?_
  refine lv_iconst (v := nI 0) hx hb dX0_forget_5 (by decide) ?_
  refine q_sB hx hb hK hP hD hS 1 1 rfl rfl (k := pe) (x := false) (by omega) (by decide) dX0_forget_6 (fun H locs hP hD hS => ?_)
  have hP : va_P (dC, dI) vwCl [(f0, .inr (0, [.ref f1, .ref f2, .ref f3, .ref s0, .int (oI ld), .int (nI ho), .int (oI lo), .int (nI ls1)])), (f1, .inl (cZ, 6, .inl (cB (va_up he pe false)))), (s0, .inr (1, [.ref s1, .int (nI sp.length)])), (s1, .inl (cI, 6, .inl (cN spr)))] H := hP
  have hD : va_D A [(f0, .inr (0, [.ref f1, .ref f2, .ref f3, .ref s0, .int (oI ld), .int (nI ho), .int (oI lo), .int (nI ls1)])), (f1, .inl (cZ, 6, .inl (cB (va_up he pe false)))), (s0, .inr (1, [.ref s1, .int (nI sp.length)])), (s1, .inl (cI, 6, .inl (cN spr)))] := hD
  refine lv_aload_n hx hb dX0_forget_7 rfl (lv_at hl 0 rfl) ?_
  refine va_get (D := (dC, dI)) (ci := 0) (v := .ref s0) (C := RX0) (T := TX0) (N := 8) hx hb hts (wX0_forget_X0_u) hown hK hP 0 rfl rfl 3 (by decide) (hts (.fieldLink RX0 25 "Confroom$Floor" "spoke" "LConfroom$Line;") (wX0_forget_f25)) (fun _ h9 => h9) rfl dX0_forget_8 ?_
  refine lv_iload_n hx hb dX0_forget_11 rfl (lv_at hl 1 rfl) ?_
  have hPc := hP.sub (ws' := [(s0, .inr (1, [.ref s1, .int (nI sp.length)])), (s1, .inl (cI, 6, .inl (cN spr)))]) [2, 3] rfl
  have hDc := hD.sub (ws' := [(s0, .inr (1, [.ref s1, .int (nI sp.length)])), (s1, .inl (cI, 6, .inl (cN spr)))]) [2, 3] (by decide) rfl
  have hFc := va_free (wc := [(s0, .inr (1, [.ref s1, .int (nI sp.length)])), (s1, .inl (cI, 6, .inl (cN spr)))]) hD hS hA [2, 3] rfl
  have hq1_0 : lrep spr sp := by
    first | assumption | omega
  have hq1_1 : pe < 2147483648 := by
    first | assumption | omega
  refine va_callv (va_runV (As := [.int (nI pe)]) (rest := []) ⟨hx, hb, hml, hown, hts⟩ (c_X1_drop l dC dI cI cZ cG s0 s1 spr sp pe H.size hq1_0 hq1_1) (cwV 1 hts gX0_forget_X1_drop rfl rfl rfl (by decide +kernel) ⟨Nat.le_of_ble_eq_true rfl, Nat.le_of_ble_eq_true rfl⟩) ⟨fun a U g mk q => q_blind q, va_recv hK hPc (ci := 1) (q0 := 0) rfl rfl, fun U hU hW => ⟨rfl, by rw [hU], by rw [hU]; exact hPc, va_K.moved hW.alike hK, hDc.weaken (fun _ _ _ _ => trivial)⟩⟩ rfl rfl hl.1 rfl (lv_room (Nat.le_of_ble_eq_true rfl)) dX0_forget_12 ⟨by decide, by decide⟩) hS (fun q _ h => hFc q h) hFc (fun u t H1 locs ht hvm hw hB hz1 hk1 hS => ?_)
  obtain ⟨row2_1, hp1_0, hP1, hD1⟩ := hB
  rw [ht] at hP1
  obtain ⟨hP, hD⟩ := va_join (wr := [(f0, .inr (0, [.ref f1, .ref f2, .ref f3, .ref s0, .int (oI ld), .int (nI ho), .int (oI lo), .int (nI ls1)])), (f1, .inl (cZ, 6, .inl (cB (va_up he pe false))))]) (w1 := [(s0, .inr (1, [.ref s1, .int (nI ((dropL sp pe).length))])), (s1, .inl (cI, 6, .inl (cN row2_1)))]) hP hD [2, 3] [0, 1] rfl rfl (by decide) (by decide) hk1 hFc hP1 hD1
  generalize H1 = H at hP hS ⊢
  have hP := hP.sub (ws' := [(f0, .inr (0, [.ref f1, .ref f2, .ref f3, .ref s0, .int (oI ld), .int (nI ho), .int (oI lo), .int (nI ls1)])), (f1, .inl (cZ, 6, .inl (cB (va_up he pe false)))), (s0, .inr (1, [.ref s1, .int (nI ((dropL sp pe).length))])), (s1, .inl (cI, 6, .inl (cN row2_1)))]) [0, 1, 2, 3] rfl
  have hD := hD.sub (ws' := [(f0, .inr (0, [.ref f1, .ref f2, .ref f3, .ref s0, .int (oI ld), .int (nI ho), .int (oI lo), .int (nI ls1)])), (f1, .inl (cZ, 6, .inl (cB (va_up he pe false)))), (s0, .inr (1, [.ref s1, .int (nI ((dropL sp pe).length))])), (s1, .inl (cI, 6, .inl (cN row2_1)))]) [0, 1, 2, 3] (by decide) rfl
  refine lv_aload_n hx hb dX0_forget_15 rfl (lv_at hl 0 rfl) ?_
  refine va_get (D := (dC, dI)) (ci := 0) (v := .int (oI ld)) (C := RX0) (T := TX0) (N := 8) hx hb hts (wX0_forget_X0_u) hown hK hP 0 rfl rfl 4 (by decide) (hts (.fieldLink RX0 29 "Confroom$Floor" "leader" "I") (wX0_forget_f29)) (fun _ h9 => h9) rfl dX0_forget_16 ?_
  refine lv_iload_n hx hb dX0_forget_19 rfl (lv_at hl 1 rfl) ?_
  refine q_neON (tgt := 28) hx hb (o := ld) (k := pe) (fun j hj => Nat.lt_trans (hld j hj) (by decide)) (by omega) dX0_forget_20 (by decide) (fun c20 => ?_) (fun c20 => ?_)
  · refine lv_aload_n hx hb dX0_forget_28 rfl (lv_at hl 0 rfl) ?_
    refine va_get (D := (dC, dI)) (ci := 0) (v := .int (oI lo)) (C := RX0) (T := TX0) (N := 8) hx hb hts (wX0_forget_X0_u) hown hK hP 0 rfl rfl 6 (by decide) (hts (.fieldLink RX0 36 "Confroom$Floor" "loudest" "I") (wX0_forget_f36)) (fun _ h9 => h9) rfl dX0_forget_29 ?_
    refine lv_iload_n hx hb dX0_forget_32 rfl (lv_at hl 1 rfl) ?_
    refine q_neON (tgt := 41) hx hb (o := lo) (k := pe) (fun j hj => Nat.lt_trans (hlo j hj) (by decide)) (by omega) dX0_forget_33 (by decide) (fun c33 => ?_) (fun c33 => ?_)
    · have ec2 : remO ld pe = ld := by
        first | exact remO_yes c20 | exact remO_no c20
      have ec3 : remO lo pe = lo := by
        first | exact remO_yes c33 | exact remO_no c33
      have hP : va_P (dC, dI) vwCl [(f0, .inr (0, [.ref f1, .ref f2, .ref f3, .ref s0, .int (oI (remO ld pe)), .int (nI ho), .int (oI (remO lo pe)), .int (nI ls1)])), (f1, .inl (cZ, 6, .inl (cB (va_up he pe false)))), (s0, .inr (1, [.ref s1, .int (nI ((dropL sp pe).length))])), (s1, .inl (cI, 6, .inl (cN row2_1)))] H := by
        rw [ec2, ec3]
        exact hP
      have hD : va_D A [(f0, .inr (0, [.ref f1, .ref f2, .ref f3, .ref s0, .int (oI (remO ld pe)), .int (nI ho), .int (oI (remO lo pe)), .int (nI ls1)])), (f1, .inl (cZ, 6, .inl (cB (va_up he pe false)))), (s0, .inr (1, [.ref s1, .int (nI ((dropL sp pe).length))])), (s1, .inl (cI, 6, .inl (cN row2_1)))] := by
        rw [ec2, ec3]
        exact hD
      refine kret 41 _ _ _ row2_1 ?_ dX0_forget_41 hP hD hS
      · first | assumption | omega
    · refine lv_aload_n hx hb dX0_forget_36 rfl (lv_at hl 0 rfl) ?_
      refine lv_iconst (v := oI none) hx hb dX0_forget_37 (by decide) ?_
      refine va_put (D := (dC, dI)) (ci := 0) (v := .int (oI none)) (ty := .int) (C := RX0) (T := TX0) (N := 8) hx hb hts (wX0_forget_X0_u) tyX0 tyX0_ok nmX0 hown hK hP hD hS 0 rfl rfl 6 (by decide) (hts (.fieldLink RX0 36 "Confroom$Floor" "loudest" "I") (wX0_forget_f36)) (fun _ h9 => h9) rfl (by decide +kernel) rfl rfl (Nat.le_of_ble_eq_true rfl) dX0_forget_38 (fun H locs hP hD hS => ?_)
      have hP : va_P (dC, dI) vwCl [(f0, .inr (0, [.ref f1, .ref f2, .ref f3, .ref s0, .int (oI ld), .int (nI ho), .int (oI none), .int (nI ls1)])), (f1, .inl (cZ, 6, .inl (cB (va_up he pe false)))), (s0, .inr (1, [.ref s1, .int (nI ((dropL sp pe).length))])), (s1, .inl (cI, 6, .inl (cN row2_1)))] H := hP
      have hD : va_D A [(f0, .inr (0, [.ref f1, .ref f2, .ref f3, .ref s0, .int (oI ld), .int (nI ho), .int (oI none), .int (nI ls1)])), (f1, .inl (cZ, 6, .inl (cB (va_up he pe false)))), (s0, .inr (1, [.ref s1, .int (nI ((dropL sp pe).length))])), (s1, .inl (cI, 6, .inl (cN row2_1)))] := hD
      have ec4 : remO ld pe = ld := by
        first | exact remO_yes c20 | exact remO_no c20
      have ec5 : remO lo pe = none := by
        first | exact remO_yes c33 | exact remO_no c33
      have hP : va_P (dC, dI) vwCl [(f0, .inr (0, [.ref f1, .ref f2, .ref f3, .ref s0, .int (oI (remO ld pe)), .int (nI ho), .int (oI (remO lo pe)), .int (nI ls1)])), (f1, .inl (cZ, 6, .inl (cB (va_up he pe false)))), (s0, .inr (1, [.ref s1, .int (nI ((dropL sp pe).length))])), (s1, .inl (cI, 6, .inl (cN row2_1)))] H := by
        rw [ec4, ec5]
        exact hP
      have hD : va_D A [(f0, .inr (0, [.ref f1, .ref f2, .ref f3, .ref s0, .int (oI (remO ld pe)), .int (nI ho), .int (oI (remO lo pe)), .int (nI ls1)])), (f1, .inl (cZ, 6, .inl (cB (va_up he pe false)))), (s0, .inr (1, [.ref s1, .int (nI ((dropL sp pe).length))])), (s1, .inl (cI, 6, .inl (cN row2_1)))] := by
        rw [ec4, ec5]
        exact hD
      refine kret 41 _ _ _ row2_1 ?_ dX0_forget_41 hP hD hS
      · first | assumption | omega
  · refine lv_aload_n hx hb dX0_forget_23 rfl (lv_at hl 0 rfl) ?_
    refine lv_iconst (v := oI none) hx hb dX0_forget_24 (by decide) ?_
    refine va_put (D := (dC, dI)) (ci := 0) (v := .int (oI none)) (ty := .int) (C := RX0) (T := TX0) (N := 8) hx hb hts (wX0_forget_X0_u) tyX0 tyX0_ok nmX0 hown hK hP hD hS 0 rfl rfl 4 (by decide) (hts (.fieldLink RX0 29 "Confroom$Floor" "leader" "I") (wX0_forget_f29)) (fun _ h9 => h9) rfl (by decide +kernel) rfl rfl (Nat.le_of_ble_eq_true rfl) dX0_forget_25 (fun H locs hP hD hS => ?_)
    have hP : va_P (dC, dI) vwCl [(f0, .inr (0, [.ref f1, .ref f2, .ref f3, .ref s0, .int (oI none), .int (nI ho), .int (oI lo), .int (nI ls1)])), (f1, .inl (cZ, 6, .inl (cB (va_up he pe false)))), (s0, .inr (1, [.ref s1, .int (nI ((dropL sp pe).length))])), (s1, .inl (cI, 6, .inl (cN row2_1)))] H := hP
    have hD : va_D A [(f0, .inr (0, [.ref f1, .ref f2, .ref f3, .ref s0, .int (oI none), .int (nI ho), .int (oI lo), .int (nI ls1)])), (f1, .inl (cZ, 6, .inl (cB (va_up he pe false)))), (s0, .inr (1, [.ref s1, .int (nI ((dropL sp pe).length))])), (s1, .inl (cI, 6, .inl (cN row2_1)))] := hD
    refine lv_aload_n hx hb dX0_forget_28 rfl (lv_at hl 0 rfl) ?_
    refine va_get (D := (dC, dI)) (ci := 0) (v := .int (oI lo)) (C := RX0) (T := TX0) (N := 8) hx hb hts (wX0_forget_X0_u) hown hK hP 0 rfl rfl 6 (by decide) (hts (.fieldLink RX0 36 "Confroom$Floor" "loudest" "I") (wX0_forget_f36)) (fun _ h9 => h9) rfl dX0_forget_29 ?_
    refine lv_iload_n hx hb dX0_forget_32 rfl (lv_at hl 1 rfl) ?_
    refine q_neON (tgt := 41) hx hb (o := lo) (k := pe) (fun j hj => Nat.lt_trans (hlo j hj) (by decide)) (by omega) dX0_forget_33 (by decide) (fun c33 => ?_) (fun c33 => ?_)
    · have ec6 : remO ld pe = none := by
        first | exact remO_yes c20 | exact remO_no c20
      have ec7 : remO lo pe = lo := by
        first | exact remO_yes c33 | exact remO_no c33
      have hP : va_P (dC, dI) vwCl [(f0, .inr (0, [.ref f1, .ref f2, .ref f3, .ref s0, .int (oI (remO ld pe)), .int (nI ho), .int (oI (remO lo pe)), .int (nI ls1)])), (f1, .inl (cZ, 6, .inl (cB (va_up he pe false)))), (s0, .inr (1, [.ref s1, .int (nI ((dropL sp pe).length))])), (s1, .inl (cI, 6, .inl (cN row2_1)))] H := by
        rw [ec6, ec7]
        exact hP
      have hD : va_D A [(f0, .inr (0, [.ref f1, .ref f2, .ref f3, .ref s0, .int (oI (remO ld pe)), .int (nI ho), .int (oI (remO lo pe)), .int (nI ls1)])), (f1, .inl (cZ, 6, .inl (cB (va_up he pe false)))), (s0, .inr (1, [.ref s1, .int (nI ((dropL sp pe).length))])), (s1, .inl (cI, 6, .inl (cN row2_1)))] := by
        rw [ec6, ec7]
        exact hD
      refine kret 41 _ _ _ row2_1 ?_ dX0_forget_41 hP hD hS
      · first | assumption | omega
    · refine lv_aload_n hx hb dX0_forget_36 rfl (lv_at hl 0 rfl) ?_
      refine lv_iconst (v := oI none) hx hb dX0_forget_37 (by decide) ?_
      refine va_put (D := (dC, dI)) (ci := 0) (v := .int (oI none)) (ty := .int) (C := RX0) (T := TX0) (N := 8) hx hb hts (wX0_forget_X0_u) tyX0 tyX0_ok nmX0 hown hK hP hD hS 0 rfl rfl 6 (by decide) (hts (.fieldLink RX0 36 "Confroom$Floor" "loudest" "I") (wX0_forget_f36)) (fun _ h9 => h9) rfl (by decide +kernel) rfl rfl (Nat.le_of_ble_eq_true rfl) dX0_forget_38 (fun H locs hP hD hS => ?_)
      have hP : va_P (dC, dI) vwCl [(f0, .inr (0, [.ref f1, .ref f2, .ref f3, .ref s0, .int (oI none), .int (nI ho), .int (oI none), .int (nI ls1)])), (f1, .inl (cZ, 6, .inl (cB (va_up he pe false)))), (s0, .inr (1, [.ref s1, .int (nI ((dropL sp pe).length))])), (s1, .inl (cI, 6, .inl (cN row2_1)))] H := hP
      have hD : va_D A [(f0, .inr (0, [.ref f1, .ref f2, .ref f3, .ref s0, .int (oI none), .int (nI ho), .int (oI none), .int (nI ls1)])), (f1, .inl (cZ, 6, .inl (cB (va_up he pe false)))), (s0, .inr (1, [.ref s1, .int (nI ((dropL sp pe).length))])), (s1, .inl (cI, 6, .inl (cN row2_1)))] := hD
      have ec8 : remO ld pe = none := by
        first | exact remO_yes c20 | exact remO_no c20
      have ec9 : remO lo pe = none := by
        first | exact remO_yes c33 | exact remO_no c33
      have hP : va_P (dC, dI) vwCl [(f0, .inr (0, [.ref f1, .ref f2, .ref f3, .ref s0, .int (oI (remO ld pe)), .int (nI ho), .int (oI (remO lo pe)), .int (nI ls1)])), (f1, .inl (cZ, 6, .inl (cB (va_up he pe false)))), (s0, .inr (1, [.ref s1, .int (nI ((dropL sp pe).length))])), (s1, .inl (cI, 6, .inl (cN row2_1)))] H := by
        rw [ec8, ec9]
        exact hP
      have hD : va_D A [(f0, .inr (0, [.ref f1, .ref f2, .ref f3, .ref s0, .int (oI (remO ld pe)), .int (nI ho), .int (oI (remO lo pe)), .int (nI ls1)])), (f1, .inl (cZ, 6, .inl (cB (va_up he pe false)))), (s0, .inr (1, [.ref s1, .int (nI ((dropL sp pe).length))])), (s1, .inl (cI, 6, .inl (cN row2_1)))] := by
        rw [ec8, ec9]
        exact hD
      refine kret 41 _ _ _ row2_1 ?_ dX0_forget_41 hP hD hS
      · first | assumption | omega

set_option maxHeartbeats 4000000 in
set_option maxRecDepth 100000 in
theorem c_X0_forget (l : Launch) (dC : Nat → ClassId) (dI : Nat → Nat → Nat) (cI cZ cG : ClassId) (f0 : Nat) (f1 : Nat) (f2 : Nat) (f3 : Nat) (s0 : Nat) (ld : Option Nat) (ho : Nat) (lo : Option Nat) (ls1 : Nat) (s1 : Nat) (he : Nat → Bool) (spr : Nat → Nat) (sp : List Nat) (pe : Nat) (sz : Nat) (hp : pe < 6) (hr : lrep spr sp) (hld : ∀ j, ld = some j → j < 6) (hlo : ∀ j, lo = some j → j < 6) : Met l yX0_forget wsX0_forget ({ frames := 1, cells := 0, slots := 0, locals := 23 } : Room) (va_Pc [.ref f0, .int (nI pe)] (fun U => U.heap.size = sz ∧ va_P (dC, dI) vwCl [(f0, .inr (0, [.ref f1, .ref f2, .ref f3, .ref s0, .int (oI ld), .int (nI ho), .int (oI lo), .int (nI ls1)])), (f1, .inl (cZ, 6, .inl (cB he))), (s0, .inr (1, [.ref s1, .int (nI sp.length)])), (s1, .inl (cI, 6, .inl (cN spr)))] U.heap ∧ va_K (dC, dI) vwCl [(cI, .int), (cZ, .boolean), (cG, .array .int)] U ∧ va_D (fun _ => True) [(f0, .inr (0, [.ref f1, .ref f2, .ref f3, .ref s0, .int (oI ld), .int (nI ho), .int (oI lo), .int (nI ls1)])), (f1, .inl (cZ, 6, .inl (cB he))), (s0, .inr (1, [.ref s1, .int (nI sp.length)])), (s1, .inl (cI, 6, .inl (cN spr)))])) (va_Qv (fun (_ : Unit) => True) (fun (_ : Unit) t => ∃ (spr2 : Nat → Nat), (lrep spr2 (dropL sp pe)) ∧ va_P (dC, dI) vwCl [(f0, .inr (0, [.ref f1, .ref f2, .ref f3, .ref s0, .int (oI (remO ld pe)), .int (nI ho), .int (oI (remO lo pe)), .int (nI ls1)])), (f1, .inl (cZ, 6, .inl (cB (va_up he pe false)))), (s0, .inr (1, [.ref s1, .int (nI ((dropL sp pe).length))])), (s1, .inl (cI, 6, .inl (cN spr2)))] t.heap ∧ va_D (va_A [(f0, .inr (0, [.ref f1, .ref f2, .ref f3, .ref s0, .int (oI ld), .int (nI ho), .int (oI lo), .int (nI ls1)])), (f1, .inl (cZ, 6, .inl (cB he))), (s0, .inr (1, [.ref s1, .int (nI sp.length)])), (s1, .inl (cI, 6, .inl (cN spr)))] sz) [(f0, .inr (0, [.ref f1, .ref f2, .ref f3, .ref s0, .int (oI (remO ld pe)), .int (nI ho), .int (oI (remO lo pe)), .int (nI ls1)])), (f1, .inl (cZ, 6, .inl (cB (va_up he pe false)))), (s0, .inr (1, [.ref s1, .int (nI ((dropL sp pe).length))])), (s1, .inl (cI, 6, .inl (cN spr2)))]) (va_A [(f0, .inr (0, [.ref f1, .ref f2, .ref f3, .ref s0, .int (oI ld), .int (nI ho), .int (oI lo), .int (nI ls1)])), (f1, .inl (cZ, 6, .inl (cB he))), (s0, .inr (1, [.ref s1, .int (nI sp.length)])), (s1, .inl (cI, 6, .inl (cN spr)))] sz)) 0 0 (va_A [(f0, .inr (0, [.ref f1, .ref f2, .ref f3, .ref s0, .int (oI ld), .int (nI ho), .int (oI lo), .int (nI ls1)])), (f1, .inl (cZ, 6, .inl (cB he))), (s0, .inr (1, [.ref s1, .int (nI sp.length)])), (s1, .inl (cI, 6, .inl (cN spr)))] sz) := by
  refine Met.ofW (cc := cX0_forget) (maxL := 2) (ret := none) (by decide) rfl ?_
  intro p e s m args below meth c s₁ B hml hv
  obtain ⟨rfl, hsz, hP, hK, hD0⟩ := hv
  have hts := atoms_spec (ws := wsX0_forget) B.pre
  have hown : s.vm.findClass RX0 = some m.cls := findClass_of_methodNamed B.named
  have hlocks := B.notSynchronized
  subst hsz
  have hD := hD0.self (sz := s.heap.size)
  have hA : ∀ q : Nat, s.heap.size ≤ q → va_A [(f0, .inr (0, [.ref f1, .ref f2, .ref f3, .ref s0, .int (oI ld), .int (nI ho), .int (oI lo), .int (nI ls1)])), (f1, .inl (cZ, 6, .inl (cB he))), (s0, .inr (1, [.ref s1, .int (nI sp.length)])), (s1, .inl (cI, 6, .inl (cN spr)))] s.heap.size q := fun q h => Or.inr h
  have hl := lv_entry ([.ref f0, .int (nI pe)]) (n := 2) (Nat.le_of_ble_eq_true rfl)
  rw [lg_entry_eq]
  generalize (lg_sl ([.ref f0, .int (nI pe)]) ++ List.replicate (2 - (lg_sl ([.ref f0, .int (nI pe)])).length) Slot.unset).toArray = ls at hl ⊢
  have hl : lv_has ls 2 [(0, .ref f0), (1, .int (nI pe))] := hl
  have hx := B.exec
  have hb := B.bytes
  exact b_X0_forget hx hb hml hown hts hK hA f0 f1 f2 f3 s0 ld ho lo ls1 s1 he spr sp pe hp hr hld hlo  hP hD va_S.rf hl (fun pcr H locs ls spr2 hp0 hd hP hD hS => W.vret hx hb B.returns (fun t ht hW => ⟨⟨(), rfl, trivial, spr2, hp0, by rw [ht]; exact hP, hD⟩, hS.F ht⟩) hS.2.2 hd)
theorem wX0_findLoudest_f15 : Cond.fieldLink RX0 15 "Confroom$Floor" "level" "[I" ∈ wsX0_findLoudest := by decide +kernel
theorem wX0_findLoudest_f19 : Cond.fieldLink RX0 19 "Confroom$Floor" "muted" "[Z" ∈ wsX0_findLoudest := by decide +kernel
theorem wX0_findLoudest_f9 : Cond.fieldLink RX0 9 "Confroom$Floor" "here" "[Z" ∈ wsX0_findLoudest := by decide +kernel
theorem wX0_findLoudest_X0_u : ∀ w ∈ u_ws RX0 TX0 8, w ∈ wsX0_findLoudest := by decide +kernel
set_option maxHeartbeats 4000000 in
set_option maxRecDepth 100000 in
theorem b_X0_findLoudest {p : Program} {l : Launch} {e : Env} {s : State} {m : MethodId} {args : Array Value} {below : List Frame} {meth : Method} {c : Code} {Q : State → Prop} {A : Nat → Prop} {dC : Nat → ClassId} {dI : Nat → Nat → Nat} {cI cZ cG : ClassId} (hx : p.tables.exec = Jvm.exec) (hb : c.code = cX0_findLoudest) (hml : c.maxLocals = 4) (hown : s.vm.findClass RX0 = some m.cls) (hts : ∀ w ∈ wsX0_findLoudest, w.before args s = true) (hK : va_K (dC, dI) vwCl [(cI, .int), (cZ, .boolean), (cG, .array .int)] s) (hA : ∀ q : Nat, s.heap.size ≤ q → A q) (f0 : Nat) (f1 : Nat) (f2 : Nat) (f3 : Nat) (s0 : Nat) (ld : Option Nat) (ho : Nat) (lo : Option Nat) (ls1 : Nat) (he : Nat → Bool) (lv : Nat → Nat) (mu : Nat → Bool) (hlv : ∀ k, lv k ≤ 100)  {H : Heap} {locs : List Loc} {ls : Array Slot} (hP : va_P (dC, dI) vwCl [(f0, .inr (0, [.ref f1, .ref f2, .ref f3, .ref s0, .int (oI ld), .int (nI ho), .int (oI lo), .int (nI ls1)])), (f1, .inl (cZ, 6, .inl (cB he))), (f2, .inl (cI, 6, .inl (cN lv))), (f3, .inl (cZ, 6, .inl (cB mu)))] H) (hD : va_D A [(f0, .inr (0, [.ref f1, .ref f2, .ref f3, .ref s0, .int (oI ld), .int (nI ho), .int (oI lo), .int (nI ls1)])), (f1, .inl (cZ, 6, .inl (cB he))), (f2, .inl (cI, 6, .inl (cN lv))), (f3, .inl (cZ, 6, .inl (cB mu)))]) (hS : va_S A s.heap H locs) (hl : lv_has ls 4 [(0, .ref f0)]) (kret : ∀ (pcr : Nat) (H : Heap) (locs : List Loc) (ls : Array Slot) (fo : Option Nat), (fo = loudF he mu lv) → decode cX0_findLoudest pcr = .ok (.ireturn, 1) → va_P (dC, dI) vwCl [(f0, .inr (0, [.ref f1, .ref f2, .ref f3, .ref s0, .int (oI ld), .int (nI ho), .int (oI lo), .int (nI ls1)])), (f1, .inl (cZ, 6, .inl (cB he))), (f2, .inl (cI, 6, .inl (cN lv))), (f3, .inl (cZ, 6, .inl (cB mu)))] H → va_D A [(f0, .inr (0, [.ref f1, .ref f2, .ref f3, .ref s0, .int (oI ld), .int (nI ho), .int (oI lo), .int (nI ls1)])), (f1, .inl (cZ, 6, .inl (cB he))), (f2, .inl (cI, 6, .inl (cN lv))), (f3, .inl (cZ, 6, .inl (cB mu)))] → va_S A s.heap H locs → W p l e ({ frames := 0, cells := 0, slots := 0, locals := 0 } : Room) s m args below meth c H locs 0 0 Q (F0 m pcr ls [.int (oI fo)])) : W p l e ({ frames := 0, cells := 0, slots := 0, locals := 0 } : Room) s m args below meth c H locs 0 0 Q (F0 m 0 ls []) := by
  refine lv_iconst (v := oI none) hx hb dX0_findLoudest_0 (by decide) ?_
  refine lv_istore_n (lv' := [(1, .int (oI none)), (0, .ref f0)]) hx hb dX0_findLoudest_1 rfl hl (by decide) rfl (fun ls hl => ?_)
  refine lv_bipush (v := nI 29) hx hb dX0_findLoudest_2 (by decide) ?_
  refine lv_istore_n (lv' := [(2, .int (nI 29)), (1, .int (oI none)), (0, .ref f0)]) hx hb dX0_findLoudest_4 rfl hl (by decide) rfl (fun ls hl => ?_)
  refine lv_iconst (v := nI 0) hx hb dX0_findLoudest_5 (by decide) ?_
  refine lv_istore_n (lv' := [(3, .int (nI 0)), (2, .int (nI 29)), (1, .int (oI none)), (0, .ref f0)]) hx hb dX0_findLoudest_6 rfl hl (by decide) rfl (fun ls hl => ?_)
  have L7 : ∀ (n : Nat) (i : Nat) (fo : Option Nat) (gr : Nat) (H : Heap) (locs : List Loc) (ls : Array Slot), (i ≤ 6) → (loudI he mu lv i = (fo, gr)) → (6 - i < n) → va_P (dC, dI) vwCl [(f0, .inr (0, [.ref f1, .ref f2, .ref f3, .ref s0, .int (oI ld), .int (nI ho), .int (oI lo), .int (nI ls1)])), (f1, .inl (cZ, 6, .inl (cB he))), (f2, .inl (cI, 6, .inl (cN lv))), (f3, .inl (cZ, 6, .inl (cB mu)))] H → va_D A [(f0, .inr (0, [.ref f1, .ref f2, .ref f3, .ref s0, .int (oI ld), .int (nI ho), .int (oI lo), .int (nI ls1)])), (f1, .inl (cZ, 6, .inl (cB he))), (f2, .inl (cI, 6, .inl (cN lv))), (f3, .inl (cZ, 6, .inl (cB mu)))] → va_S A s.heap H locs → lv_has ls 4 [(0, .ref f0), (1, .int (oI fo)), (2, .int (nI gr)), (3, .int (nI i))] → W p l e ({ frames := 0, cells := 0, slots := 0, locals := 0 } : Room) s m args below meth c H locs 0 0 Q (F0 m 7 ls []) := by
    intro n
    induction n with
    | zero =>
      intro i fo gr H locs ls hi hh hm
      exact absurd hm (Nat.not_lt_zero _)
    | succ n ih7 =>
      intro i fo gr H locs ls hi hh hm hP hD hS hl
      refine lv_iload_n hx hb dX0_findLoudest_7 rfl (lv_at hl 3 rfl) ?_
      refine lv_bipush (v := nI 6) hx hb dX0_findLoudest_8 (by decide) ?_
      have hgr := loudI_100 (he := he) (mu := mu) hlv i
      rw [hh] at hgr
      refine q_ge (tgt := 56) hx hb (a := i) (b := 6) (by omega) (by omega) dX0_findLoudest_10 (by decide) (fun c10 => ?_) (fun c10 => ?_)
      · refine lv_iload_n hx hb dX0_findLoudest_56 rfl (lv_at hl 1 rfl) ?_
        refine kret 57 _ _ _ fo ?_ dX0_findLoudest_57 hP hD hS
        · unfold loudF
          rw [show (6 : Nat) = i by omega, hh]
      · refine lv_aload_n hx hb dX0_findLoudest_13 rfl (lv_at hl 0 rfl) ?_
        refine va_get (D := (dC, dI)) (ci := 0) (v := .ref f1) (C := RX0) (T := TX0) (N := 8) hx hb hts (wX0_findLoudest_X0_u) hown hK hP 0 rfl rfl 0 (by decide) (hts (.fieldLink RX0 9 "Confroom$Floor" "here" "[Z") (wX0_findLoudest_f9)) (fun _ h9 => h9) rfl dX0_findLoudest_14 ?_
        refine lv_iload_n hx hb dX0_findLoudest_17 rfl (lv_at hl 3 rfl) ?_
        refine q_zB hx hb hK hP 1 1 rfl rfl (k := i) (by omega) (by decide) dX0_findLoudest_18 ?_
        refine q_zeq (tgt := 50) hx hb (b := (he i)) dX0_findLoudest_19 (by decide) (fun c19 => ?_) (fun c19 => ?_)
        · refine lv_iinc (v := nI (i + 1)) (lv' := [(3, .int (nI (i + 1))), (0, .ref f0), (1, .int (oI fo)), (2, .int (nI gr))]) hx hb dX0_findLoudest_50 hl (k := 3) rfl (q_inc i 1) (by decide) rfl (fun ls hl => ?_)
          refine lv_goto (tgt := 7) hx hb dX0_findLoudest_53 (by decide) ?_
          refine ih7 (i + 1) fo gr _ _ _ ?_ ?_ (by omega) hP hD hS (lv_sub hl [1, 2, 3, 0] rfl)
          · omega
          · first | (rw [loudI_no1 c19]; exact hh) | (rw [loudI_no2 c28]; exact hh) | (rw [loudI_no3 (by rw [hh]; exact c38)]; exact hh) | exact loudI_yes c19 c28 (by rw [hh]; exact c38)
        · refine lv_aload_n hx hb dX0_findLoudest_22 rfl (lv_at hl 0 rfl) ?_
          refine va_get (D := (dC, dI)) (ci := 0) (v := .ref f3) (C := RX0) (T := TX0) (N := 8) hx hb hts (wX0_findLoudest_X0_u) hown hK hP 0 rfl rfl 2 (by decide) (hts (.fieldLink RX0 19 "Confroom$Floor" "muted" "[Z") (wX0_findLoudest_f19)) (fun _ h9 => h9) rfl dX0_findLoudest_23 ?_
          refine lv_iload_n hx hb dX0_findLoudest_26 rfl (lv_at hl 3 rfl) ?_
          refine q_zB hx hb hK hP 3 1 rfl rfl (k := i) (by omega) (by decide) dX0_findLoudest_27 ?_
          refine q_zne (tgt := 50) hx hb (b := (mu i)) dX0_findLoudest_28 (by decide) (fun c28 => ?_) (fun c28 => ?_)
          · refine lv_iinc (v := nI (i + 1)) (lv' := [(3, .int (nI (i + 1))), (0, .ref f0), (1, .int (oI fo)), (2, .int (nI gr))]) hx hb dX0_findLoudest_50 hl (k := 3) rfl (q_inc i 1) (by decide) rfl (fun ls hl => ?_)
            refine lv_goto (tgt := 7) hx hb dX0_findLoudest_53 (by decide) ?_
            refine ih7 (i + 1) fo gr _ _ _ ?_ ?_ (by omega) hP hD hS (lv_sub hl [1, 2, 3, 0] rfl)
            · omega
            · first | (rw [loudI_no1 c19]; exact hh) | (rw [loudI_no2 c28]; exact hh) | (rw [loudI_no3 (by rw [hh]; exact c38)]; exact hh) | exact loudI_yes c19 c28 (by rw [hh]; exact c38)
          · refine lv_aload_n hx hb dX0_findLoudest_31 rfl (lv_at hl 0 rfl) ?_
            refine va_get (D := (dC, dI)) (ci := 0) (v := .ref f2) (C := RX0) (T := TX0) (N := 8) hx hb hts (wX0_findLoudest_X0_u) hown hK hP 0 rfl rfl 1 (by decide) (hts (.fieldLink RX0 15 "Confroom$Floor" "level" "[I") (wX0_findLoudest_f15)) (fun _ h9 => h9) rfl dX0_findLoudest_32 ?_
            refine lv_iload_n hx hb dX0_findLoudest_35 rfl (lv_at hl 3 rfl) ?_
            refine q_iN hx hb hK hP 2 0 rfl rfl (k := i) (by omega) (by decide) dX0_findLoudest_36 ?_
            have hv1 := hlv i
            refine lv_iload_n hx hb dX0_findLoudest_37 rfl (lv_at hl 2 rfl) ?_
            refine q_le (tgt := 50) hx hb (a := (lv i)) (b := gr) (by omega) (by omega) dX0_findLoudest_38 (by decide) (fun c38 => ?_) (fun c38 => ?_)
            · refine lv_iinc (v := nI (i + 1)) (lv' := [(3, .int (nI (i + 1))), (0, .ref f0), (1, .int (oI fo)), (2, .int (nI gr))]) hx hb dX0_findLoudest_50 hl (k := 3) rfl (q_inc i 1) (by decide) rfl (fun ls hl => ?_)
              refine lv_goto (tgt := 7) hx hb dX0_findLoudest_53 (by decide) ?_
              refine ih7 (i + 1) fo gr _ _ _ ?_ ?_ (by omega) hP hD hS (lv_sub hl [1, 2, 3, 0] rfl)
              · omega
              · first | (rw [loudI_no1 c19]; exact hh) | (rw [loudI_no2 c28]; exact hh) | (rw [loudI_no3 (by rw [hh]; exact c38)]; exact hh) | exact loudI_yes c19 c28 (by rw [hh]; exact c38)
            · refine lv_iload_n hx hb dX0_findLoudest_41 rfl (lv_at hl 3 rfl) ?_
              refine lv_istore_n (lv' := [(1, .int (nI i)), (0, .ref f0), (2, .int (nI gr)), (3, .int (nI i))]) hx hb dX0_findLoudest_42 rfl hl (by decide) rfl (fun ls hl => ?_)
              refine lv_aload_n hx hb dX0_findLoudest_43 rfl (lv_at hl 1 rfl) ?_
              refine va_get (D := (dC, dI)) (ci := 0) (v := .ref f2) (C := RX0) (T := TX0) (N := 8) hx hb hts (wX0_findLoudest_X0_u) hown hK hP 0 rfl rfl 1 (by decide) (hts (.fieldLink RX0 15 "Confroom$Floor" "level" "[I") (wX0_findLoudest_f15)) (fun _ h9 => h9) rfl dX0_findLoudest_44 ?_
              refine lv_iload_n hx hb dX0_findLoudest_47 rfl (lv_at hl 3 rfl) ?_
              refine q_iN hx hb hK hP 2 0 rfl rfl (k := i) (by omega) (by decide) dX0_findLoudest_48 ?_
              have hv2 := hlv i
              refine lv_istore_n (lv' := [(2, .int (nI (lv i))), (1, .int (nI i)), (0, .ref f0), (3, .int (nI i))]) hx hb dX0_findLoudest_49 rfl hl (by decide) rfl (fun ls hl => ?_)
              refine lv_iinc (v := nI (i + 1)) (lv' := [(3, .int (nI (i + 1))), (2, .int (nI (lv i))), (1, .int (nI i)), (0, .ref f0)]) hx hb dX0_findLoudest_50 hl (k := 3) rfl (q_inc i 1) (by decide) rfl (fun ls hl => ?_)
              refine lv_goto (tgt := 7) hx hb dX0_findLoudest_53 (by decide) ?_
              refine ih7 (i + 1) (some i) (lv i) _ _ _ ?_ ?_ (by omega) hP hD hS (lv_sub hl [3, 2, 1, 0] rfl)
              · omega
              · first | (rw [loudI_no1 c19]; exact hh) | (rw [loudI_no2 c28]; exact hh) | (rw [loudI_no3 (by rw [hh]; exact c38)]; exact hh) | exact loudI_yes c19 c28 (by rw [hh]; exact c38)
  refine L7 _ 0 none 29 _ _ _ ?_ ?_ (Nat.lt_succ_self _) hP hD hS (lv_sub hl [3, 2, 1, 0] rfl)
  · omega
  · rfl

set_option maxHeartbeats 4000000 in
set_option maxRecDepth 100000 in
theorem c_X0_findLoudest (l : Launch) (dC : Nat → ClassId) (dI : Nat → Nat → Nat) (cI cZ cG : ClassId) (f0 : Nat) (f1 : Nat) (f2 : Nat) (f3 : Nat) (s0 : Nat) (ld : Option Nat) (ho : Nat) (lo : Option Nat) (ls1 : Nat) (he : Nat → Bool) (lv : Nat → Nat) (mu : Nat → Bool) (sz : Nat) (hlv : ∀ k, lv k ≤ 100) : Met l yX0_findLoudest wsX0_findLoudest ({ frames := 0, cells := 0, slots := 0, locals := 0 } : Room) (va_Pc [.ref f0] (fun U => U.heap.size = sz ∧ va_P (dC, dI) vwCl [(f0, .inr (0, [.ref f1, .ref f2, .ref f3, .ref s0, .int (oI ld), .int (nI ho), .int (oI lo), .int (nI ls1)])), (f1, .inl (cZ, 6, .inl (cB he))), (f2, .inl (cI, 6, .inl (cN lv))), (f3, .inl (cZ, 6, .inl (cB mu)))] U.heap ∧ va_K (dC, dI) vwCl [(cI, .int), (cZ, .boolean), (cG, .array .int)] U ∧ va_D (fun _ => True) [(f0, .inr (0, [.ref f1, .ref f2, .ref f3, .ref s0, .int (oI ld), .int (nI ho), .int (oI lo), .int (nI ls1)])), (f1, .inl (cZ, 6, .inl (cB he))), (f2, .inl (cI, 6, .inl (cN lv))), (f3, .inl (cZ, 6, .inl (cB mu)))])) (va_Qi (fun (r u : Int32) => r = u) (fun (u : Int32) t => ∃ (fo : Option Nat), (fo = loudF he mu lv) ∧ u = oI fo ∧ va_P (dC, dI) vwCl [(f0, .inr (0, [.ref f1, .ref f2, .ref f3, .ref s0, .int (oI ld), .int (nI ho), .int (oI lo), .int (nI ls1)])), (f1, .inl (cZ, 6, .inl (cB he))), (f2, .inl (cI, 6, .inl (cN lv))), (f3, .inl (cZ, 6, .inl (cB mu)))] t.heap ∧ va_D (va_A [(f0, .inr (0, [.ref f1, .ref f2, .ref f3, .ref s0, .int (oI ld), .int (nI ho), .int (oI lo), .int (nI ls1)])), (f1, .inl (cZ, 6, .inl (cB he))), (f2, .inl (cI, 6, .inl (cN lv))), (f3, .inl (cZ, 6, .inl (cB mu)))] sz) [(f0, .inr (0, [.ref f1, .ref f2, .ref f3, .ref s0, .int (oI ld), .int (nI ho), .int (oI lo), .int (nI ls1)])), (f1, .inl (cZ, 6, .inl (cB he))), (f2, .inl (cI, 6, .inl (cN lv))), (f3, .inl (cZ, 6, .inl (cB mu)))]) (va_A [(f0, .inr (0, [.ref f1, .ref f2, .ref f3, .ref s0, .int (oI ld), .int (nI ho), .int (oI lo), .int (nI ls1)])), (f1, .inl (cZ, 6, .inl (cB he))), (f2, .inl (cI, 6, .inl (cN lv))), (f3, .inl (cZ, 6, .inl (cB mu)))] sz)) 0 0 (va_A [(f0, .inr (0, [.ref f1, .ref f2, .ref f3, .ref s0, .int (oI ld), .int (nI ho), .int (oI lo), .int (nI ls1)])), (f1, .inl (cZ, 6, .inl (cB he))), (f2, .inl (cI, 6, .inl (cN lv))), (f3, .inl (cZ, 6, .inl (cB mu)))] sz) := by
  refine Met.ofW (cc := cX0_findLoudest) (maxL := 4) (ret := (some .int)) (by decide) rfl ?_
  intro p e s m args below meth c s₁ B hml hv
  obtain ⟨rfl, hsz, hP, hK, hD0⟩ := hv
  have hts := atoms_spec (ws := wsX0_findLoudest) B.pre
  have hown : s.vm.findClass RX0 = some m.cls := findClass_of_methodNamed B.named
  have hlocks := B.notSynchronized
  subst hsz
  have hD := hD0.self (sz := s.heap.size)
  have hA : ∀ q : Nat, s.heap.size ≤ q → va_A [(f0, .inr (0, [.ref f1, .ref f2, .ref f3, .ref s0, .int (oI ld), .int (nI ho), .int (oI lo), .int (nI ls1)])), (f1, .inl (cZ, 6, .inl (cB he))), (f2, .inl (cI, 6, .inl (cN lv))), (f3, .inl (cZ, 6, .inl (cB mu)))] s.heap.size q := fun q h => Or.inr h
  have hl := lv_entry ([.ref f0]) (n := 4) (Nat.le_of_ble_eq_true rfl)
  rw [lg_entry_eq]
  generalize (lg_sl ([.ref f0]) ++ List.replicate (4 - (lg_sl ([.ref f0])).length) Slot.unset).toArray = ls at hl ⊢
  have hl : lv_has ls 4 [(0, .ref f0)] := hl
  have hx := B.exec
  have hb := B.bytes
  exact b_X0_findLoudest hx hb hml hown hts hK hA f0 f1 f2 f3 s0 ld ho lo ls1 he lv mu hlv  hP hD va_S.rf hl (fun pcr H locs ls fo hp0 hd hP hD hS => W.iret hx hb B.returns (fun t ht hW => ⟨⟨_, _, rfl, rfl, fo, hp0, rfl, by rw [ht]; exact hP, hD⟩, hS.F ht⟩) hS.2.2 hd)
theorem wX0_findSpeaker_f25 : Cond.fieldLink RX0 25 "Confroom$Floor" "spoke" "LConfroom$Line;" ∈ wsX0_findSpeaker := by decide +kernel
theorem wX0_findSpeaker_f29 : Cond.fieldLink RX0 29 "Confroom$Floor" "leader" "I" ∈ wsX0_findSpeaker := by decide +kernel
theorem wX0_findSpeaker_f33 : Cond.fieldLink RX0 33 "Confroom$Floor" "hold" "I" ∈ wsX0_findSpeaker := by decide +kernel
theorem wX0_findSpeaker_f36 : Cond.fieldLink RX0 36 "Confroom$Floor" "loudest" "I" ∈ wsX0_findSpeaker := by decide +kernel
theorem wX0_findSpeaker_f39 : Cond.fieldLink RX0 39 "Confroom$Floor" "loudSeconds" "I" ∈ wsX0_findSpeaker := by decide +kernel
theorem wX0_findSpeaker_X0_u : ∀ w ∈ u_ws RX0 TX0 8, w ∈ wsX0_findSpeaker := by decide +kernel
set_option maxHeartbeats 4000000 in
set_option maxRecDepth 100000 in
theorem b_X0_findSpeaker {p : Program} {l : Launch} {e : Env} {s : State} {m : MethodId} {args : Array Value} {below : List Frame} {meth : Method} {c : Code} {Q : State → Prop} {A : Nat → Prop} {dC : Nat → ClassId} {dI : Nat → Nat → Nat} {cI cZ cG : ClassId} (hx : p.tables.exec = Jvm.exec) (hb : c.code = cX0_findSpeaker) (hml : c.maxLocals = 2) (hown : s.vm.findClass RX0 = some m.cls) (hts : ∀ w ∈ wsX0_findSpeaker, w.before args s = true) (hK : va_K (dC, dI) vwCl [(cI, .int), (cZ, .boolean), (cG, .array .int)] s) (hA : ∀ q : Nat, s.heap.size ≤ q → A q) (f0 : Nat) (f1 : Nat) (f2 : Nat) (f3 : Nat) (s0 : Nat) (ld : Option Nat) (ho : Nat) (lo : Option Nat) (ls1 : Nat) (s1 : Nat) (he : Nat → Bool) (lv : Nat → Nat) (mu : Nat → Bool) (spr : Nat → Nat) (sp : List Nat) (hlv : ∀ k, lv k ≤ 100) (hr : lrep spr sp) (hlo : ∀ j, lo = some j → j < 6) (hls : ls1 < 1000000) (hho : ho ≤ 10)  {H : Heap} {locs : List Loc} {ls : Array Slot} (hP : va_P (dC, dI) vwCl [(f0, .inr (0, [.ref f1, .ref f2, .ref f3, .ref s0, .int (oI ld), .int (nI ho), .int (oI lo), .int (nI ls1)])), (f1, .inl (cZ, 6, .inl (cB he))), (f2, .inl (cI, 6, .inl (cN lv))), (f3, .inl (cZ, 6, .inl (cB mu))), (s0, .inr (1, [.ref s1, .int (nI sp.length)])), (s1, .inl (cI, 6, .inl (cN spr)))] H) (hD : va_D A [(f0, .inr (0, [.ref f1, .ref f2, .ref f3, .ref s0, .int (oI ld), .int (nI ho), .int (oI lo), .int (nI ls1)])), (f1, .inl (cZ, 6, .inl (cB he))), (f2, .inl (cI, 6, .inl (cN lv))), (f3, .inl (cZ, 6, .inl (cB mu))), (s0, .inr (1, [.ref s1, .int (nI sp.length)])), (s1, .inl (cI, 6, .inl (cN spr)))]) (hS : va_S A s.heap H locs) (hl : lv_has ls 2 [(0, .ref f0)]) (kret : ∀ (pcr : Nat) (H : Heap) (locs : List Loc) (ls : Array Slot) (spr2 : Nat → Nat), (lrep spr2 (spF (loudF he mu lv) lo ls1 ho sp)) → decode cX0_findSpeaker pcr = .ok (.return_, 1) → va_P (dC, dI) vwCl [(f0, .inr (0, [.ref f1, .ref f2, .ref f3, .ref s0, .int (oI (ldF (loudF he mu lv) lo ld ls1 ho)), .int (nI ho), .int (oI (loudF he mu lv)), .int (nI (lsF (loudF he mu lv) lo ls1))])), (f1, .inl (cZ, 6, .inl (cB he))), (f2, .inl (cI, 6, .inl (cN lv))), (f3, .inl (cZ, 6, .inl (cB mu))), (s0, .inr (1, [.ref s1, .int (nI ((spF (loudF he mu lv) lo ls1 ho sp).length))])), (s1, .inl (cI, 6, .inl (cN spr2)))] H → va_D A [(f0, .inr (0, [.ref f1, .ref f2, .ref f3, .ref s0, .int (oI (ldF (loudF he mu lv) lo ld ls1 ho)), .int (nI ho), .int (oI (loudF he mu lv)), .int (nI (lsF (loudF he mu lv) lo ls1))])), (f1, .inl (cZ, 6, .inl (cB he))), (f2, .inl (cI, 6, .inl (cN lv))), (f3, .inl (cZ, 6, .inl (cB mu))), (s0, .inr (1, [.ref s1, .int (nI ((spF (loudF he mu lv) lo ls1 ho sp).length))])), (s1, .inl (cI, 6, .inl (cN spr2)))] → va_S A s.heap H locs → W p l e ({ frames := 2, cells := 0, slots := 0, locals := 45 } : Room) s m args below meth c H locs 0 0 Q (F0 m pcr ls [])) : W p l e ({ frames := 2, cells := 0, slots := 0, locals := 45 } : Room) s m args below meth c H locs 0 0 Q (F0 m 0 ls []) := by
  refine lv_aload_n hx hb dX0_findSpeaker_0 rfl (lv_at hl 0 rfl) ?_
  have hPc := hP.sub (ws' := [(f0, .inr (0, [.ref f1, .ref f2, .ref f3, .ref s0, .int (oI ld), .int (nI ho), .int (oI lo), .int (nI ls1)])), (f1, .inl (cZ, 6, .inl (cB he))), (f2, .inl (cI, 6, .inl (cN lv))), (f3, .inl (cZ, 6, .inl (cB mu)))]) [0, 1, 2, 3] rfl
  have hDc := hD.sub (ws' := [(f0, .inr (0, [.ref f1, .ref f2, .ref f3, .ref s0, .int (oI ld), .int (nI ho), .int (oI lo), .int (nI ls1)])), (f1, .inl (cZ, 6, .inl (cB he))), (f2, .inl (cI, 6, .inl (cN lv))), (f3, .inl (cZ, 6, .inl (cB mu)))]) [0, 1, 2, 3] (by decide) rfl
  have hFc := va_free (wc := [(f0, .inr (0, [.ref f1, .ref f2, .ref f3, .ref s0, .int (oI ld), .int (nI ho), .int (oI lo), .int (nI ls1)])), (f1, .inl (cZ, 6, .inl (cB he))), (f2, .inl (cI, 6, .inl (cN lv))), (f3, .inl (cZ, 6, .inl (cB mu)))]) hD hS hA [0, 1, 2, 3] rfl
  have hq1_0 : ∀ k, lv k ≤ 100 := by
    first | assumption | omega
  refine va_calli (va_runV (As := []) (rest := []) ⟨hx, hb, hml, hown, hts⟩ (c_X0_findLoudest l dC dI cI cZ cG f0 f1 f2 f3 s0 ld ho lo ls1 he lv mu H.size hq1_0) (cwV 0 hts gX0_findSpeaker_X0_findLoudest rfl rfl rfl (by decide +kernel) ⟨Nat.le_of_ble_eq_true rfl, Nat.le_of_ble_eq_true rfl⟩) ⟨fun a U g mk q => q_blind q, va_recv hK hPc (ci := 0) (q0 := 0) rfl rfl, fun U hU hW => ⟨rfl, by rw [hU], by rw [hU]; exact hPc, va_K.moved hW.alike hK, hDc.weaken (fun _ _ _ _ => trivial)⟩⟩ rfl rfl hl.1 rfl (lv_room (Nat.le_of_ble_eq_true rfl)) dX0_findSpeaker_1 ⟨by decide, by decide⟩) hS (fun q _ h => hFc q h) hFc (fun rv u t H1 locs ht hvm hw hB hz1 hk1 hS => ?_)
  obtain ⟨fo, hfo, hr1, hP1, hD1⟩ := hB
  rw [ht] at hP1
  subst hw
  subst hr1
  obtain ⟨hP, hD⟩ := va_join (wr := [(s0, .inr (1, [.ref s1, .int (nI sp.length)])), (s1, .inl (cI, 6, .inl (cN spr)))]) (w1 := [(f0, .inr (0, [.ref f1, .ref f2, .ref f3, .ref s0, .int (oI ld), .int (nI ho), .int (oI lo), .int (nI ls1)])), (f1, .inl (cZ, 6, .inl (cB he))), (f2, .inl (cI, 6, .inl (cN lv))), (f3, .inl (cZ, 6, .inl (cB mu)))]) hP hD [0, 1, 2, 3] [4, 5] rfl rfl (by decide) (by decide) hk1 hFc hP1 hD1
  generalize H1 = H at hP hS ⊢
  have hP := hP.sub (ws' := [(f0, .inr (0, [.ref f1, .ref f2, .ref f3, .ref s0, .int (oI ld), .int (nI ho), .int (oI lo), .int (nI ls1)])), (f1, .inl (cZ, 6, .inl (cB he))), (f2, .inl (cI, 6, .inl (cN lv))), (f3, .inl (cZ, 6, .inl (cB mu))), (s0, .inr (1, [.ref s1, .int (nI sp.length)])), (s1, .inl (cI, 6, .inl (cN spr)))]) [2, 3, 4, 5, 0, 1] rfl
  have hD := hD.sub (ws' := [(f0, .inr (0, [.ref f1, .ref f2, .ref f3, .ref s0, .int (oI ld), .int (nI ho), .int (oI lo), .int (nI ls1)])), (f1, .inl (cZ, 6, .inl (cB he))), (f2, .inl (cI, 6, .inl (cN lv))), (f3, .inl (cZ, 6, .inl (cB mu))), (s0, .inr (1, [.ref s1, .int (nI sp.length)])), (s1, .inl (cI, 6, .inl (cN spr)))]) [2, 3, 4, 5, 0, 1] (by decide) rfl
  have hfl : ∀ j, fo = some j → j < 6 := fun j hj => loudF_lt (hfo.symm.trans hj)
  refine lv_istore_n (lv' := [(1, .int (oI fo)), (0, .ref f0)]) hx hb dX0_findSpeaker_4 rfl hl (by decide) rfl (fun ls hl => ?_)
  refine lv_aload_n hx hb dX0_findSpeaker_5 rfl (lv_at hl 1 rfl) ?_
  refine lv_iload_n hx hb dX0_findSpeaker_6 rfl (lv_at hl 0 rfl) ?_
  refine lv_aload_n hx hb dX0_findSpeaker_7 rfl (lv_at hl 1 rfl) ?_
  refine va_get (D := (dC, dI)) (ci := 0) (v := .int (oI lo)) (C := RX0) (T := TX0) (N := 8) hx hb hts (wX0_findSpeaker_X0_u) hown hK hP 0 rfl rfl 6 (by decide) (hts (.fieldLink RX0 36 "Confroom$Floor" "loudest" "I") (wX0_findSpeaker_f36)) (fun _ h9 => h9) rfl dX0_findSpeaker_8 ?_
  refine q_neOO (tgt := 23) hx hb (o := fo) (o2 := lo) (by first | exact fun j hj => Nat.lt_trans (hfl j hj) (by decide) | exact fun j hj => Nat.lt_trans (hlo j hj) (by decide)) (by first | exact fun j hj => Nat.lt_trans (hfl j hj) (by decide) | exact fun j hj => Nat.lt_trans (hlo j hj) (by decide)) dX0_findSpeaker_11 (by decide) (fun c11 => ?_) (fun c11 => ?_)
  · refine lv_iconst (v := nI 1) hx hb dX0_findSpeaker_23 (by decide) ?_
    have hls : lsF fo lo ls1 = 1 := by
      unfold lsF
      first | rw [if_pos c11] | rw [if_neg c11]
    refine va_put (D := (dC, dI)) (ci := 0) (v := .int (nI 1)) (ty := .int) (C := RX0) (T := TX0) (N := 8) hx hb hts (wX0_findSpeaker_X0_u) tyX0 tyX0_ok nmX0 hown hK hP hD hS 0 rfl rfl 7 (by decide) (hts (.fieldLink RX0 39 "Confroom$Floor" "loudSeconds" "I") (wX0_findSpeaker_f39)) (fun _ h9 => h9) rfl (by decide +kernel) rfl rfl (Nat.le_of_ble_eq_true rfl) dX0_findSpeaker_24 (fun H locs hP hD hS => ?_)
    have hP : va_P (dC, dI) vwCl [(f0, .inr (0, [.ref f1, .ref f2, .ref f3, .ref s0, .int (oI ld), .int (nI ho), .int (oI lo), .int (nI 1)])), (f1, .inl (cZ, 6, .inl (cB he))), (f2, .inl (cI, 6, .inl (cN lv))), (f3, .inl (cZ, 6, .inl (cB mu))), (s0, .inr (1, [.ref s1, .int (nI sp.length)])), (s1, .inl (cI, 6, .inl (cN spr)))] H := hP
    have hD : va_D A [(f0, .inr (0, [.ref f1, .ref f2, .ref f3, .ref s0, .int (oI ld), .int (nI ho), .int (oI lo), .int (nI 1)])), (f1, .inl (cZ, 6, .inl (cB he))), (f2, .inl (cI, 6, .inl (cN lv))), (f3, .inl (cZ, 6, .inl (cB mu))), (s0, .inr (1, [.ref s1, .int (nI sp.length)])), (s1, .inl (cI, 6, .inl (cN spr)))] := hD
    refine lv_aload_n hx hb dX0_findSpeaker_27 rfl (lv_at hl 1 rfl) ?_
    refine lv_iload_n hx hb dX0_findSpeaker_28 rfl (lv_at hl 0 rfl) ?_
    refine va_put (D := (dC, dI)) (ci := 0) (v := .int (oI fo)) (ty := .int) (C := RX0) (T := TX0) (N := 8) hx hb hts (wX0_findSpeaker_X0_u) tyX0 tyX0_ok nmX0 hown hK hP hD hS 0 rfl rfl 6 (by decide) (hts (.fieldLink RX0 36 "Confroom$Floor" "loudest" "I") (wX0_findSpeaker_f36)) (fun _ h9 => h9) rfl (by decide +kernel) rfl rfl (Nat.le_of_ble_eq_true rfl) dX0_findSpeaker_29 (fun H locs hP hD hS => ?_)
    have hP : va_P (dC, dI) vwCl [(f0, .inr (0, [.ref f1, .ref f2, .ref f3, .ref s0, .int (oI ld), .int (nI ho), .int (oI fo), .int (nI 1)])), (f1, .inl (cZ, 6, .inl (cB he))), (f2, .inl (cI, 6, .inl (cN lv))), (f3, .inl (cZ, 6, .inl (cB mu))), (s0, .inr (1, [.ref s1, .int (nI sp.length)])), (s1, .inl (cI, 6, .inl (cN spr)))] H := hP
    have hD : va_D A [(f0, .inr (0, [.ref f1, .ref f2, .ref f3, .ref s0, .int (oI ld), .int (nI ho), .int (oI fo), .int (nI 1)])), (f1, .inl (cZ, 6, .inl (cB he))), (f2, .inl (cI, 6, .inl (cN lv))), (f3, .inl (cZ, 6, .inl (cB mu))), (s0, .inr (1, [.ref s1, .int (nI sp.length)])), (s1, .inl (cI, 6, .inl (cN spr)))] := hD
    refine lv_iload_n hx hb dX0_findSpeaker_32 rfl (lv_at hl 0 rfl) ?_
    refine lv_iconst (v := oI none) hx hb dX0_findSpeaker_33 (by decide) ?_
    refine q_eqOn (tgt := 61) hx hb (o := fo) (fun j hj => Nat.lt_trans (hfl j hj) (by decide)) dX0_findSpeaker_34 (by decide) (fun c34 => ?_) (fun c34 => ?_)
    · have ec2 : ldF (loudF he mu lv) lo ld ls1 ho = ld := by
        rw [← hfo]; first | (rw [c34]; rfl) | exact ldF_lt (by rw [hls]; exact c45) | exact ldF_ge (by rw [hls]; exact c45)
      have ec3 : loudF he mu lv = fo := by
        exact hfo.symm
      have ec4 : lsF (loudF he mu lv) lo ls1 = 1 := by
        rw [← hfo]; exact hls
      have ec5 : (spF (loudF he mu lv) lo ls1 ho sp).length = sp.length := by
        rw [← hfo]; first | (rw [c34]; rfl) | rw [spF_lt (by rw [hls]; exact c45)] | rw [spF_ge (by rw [hls]; exact c45)]
      have hP : va_P (dC, dI) vwCl [(f0, .inr (0, [.ref f1, .ref f2, .ref f3, .ref s0, .int (oI (ldF (loudF he mu lv) lo ld ls1 ho)), .int (nI ho), .int (oI (loudF he mu lv)), .int (nI (lsF (loudF he mu lv) lo ls1))])), (f1, .inl (cZ, 6, .inl (cB he))), (f2, .inl (cI, 6, .inl (cN lv))), (f3, .inl (cZ, 6, .inl (cB mu))), (s0, .inr (1, [.ref s1, .int (nI ((spF (loudF he mu lv) lo ls1 ho sp).length))])), (s1, .inl (cI, 6, .inl (cN spr)))] H := by
        rw [ec5, ec2, ec4, ec3]
        exact hP
      have hD : va_D A [(f0, .inr (0, [.ref f1, .ref f2, .ref f3, .ref s0, .int (oI (ldF (loudF he mu lv) lo ld ls1 ho)), .int (nI ho), .int (oI (loudF he mu lv)), .int (nI (lsF (loudF he mu lv) lo ls1))])), (f1, .inl (cZ, 6, .inl (cB he))), (f2, .inl (cI, 6, .inl (cN lv))), (f3, .inl (cZ, 6, .inl (cB mu))), (s0, .inr (1, [.ref s1, .int (nI ((spF (loudF he mu lv) lo ls1 ho sp).length))])), (s1, .inl (cI, 6, .inl (cN spr)))] := by
        rw [ec5, ec2, ec4, ec3]
        exact hD
      refine kret 61 _ _ _ spr ?_ dX0_findSpeaker_61 hP hD hS
      · rw [← hfo]; first | (rw [c34]; exact hr) | (rw [spF_lt (by rw [hls]; exact c45)]; exact hr) | (rw [spF_ge (by rw [hls]; exact c45)]; exact hsp2)
    · refine lv_aload_n hx hb dX0_findSpeaker_37 rfl (lv_at hl 1 rfl) ?_
      refine va_get (D := (dC, dI)) (ci := 0) (v := .int (nI 1)) (C := RX0) (T := TX0) (N := 8) hx hb hts (wX0_findSpeaker_X0_u) hown hK hP 0 rfl rfl 7 (by decide) (hts (.fieldLink RX0 39 "Confroom$Floor" "loudSeconds" "I") (wX0_findSpeaker_f39)) (fun _ h9 => h9) rfl dX0_findSpeaker_38 ?_
      refine lv_aload_n hx hb dX0_findSpeaker_41 rfl (lv_at hl 1 rfl) ?_
      refine va_get (D := (dC, dI)) (ci := 0) (v := .int (nI ho)) (C := RX0) (T := TX0) (N := 8) hx hb hts (wX0_findSpeaker_X0_u) hown hK hP 0 rfl rfl 5 (by decide) (hts (.fieldLink RX0 33 "Confroom$Floor" "hold" "I") (wX0_findSpeaker_f33)) (fun _ h9 => h9) rfl dX0_findSpeaker_42 ?_
      refine q_lt (tgt := 61) hx hb (a := 1) (b := ho) (by omega) (by omega) dX0_findSpeaker_45 (by decide) (fun c45 => ?_) (fun c45 => ?_)
      · have ec6 : ldF (loudF he mu lv) lo ld ls1 ho = ld := by
          rw [← hfo]; first | (rw [c34]; rfl) | exact ldF_lt (by rw [hls]; exact c45) | exact ldF_ge (by rw [hls]; exact c45)
        have ec7 : loudF he mu lv = fo := by
          exact hfo.symm
        have ec8 : lsF (loudF he mu lv) lo ls1 = 1 := by
          rw [← hfo]; exact hls
        have ec9 : (spF (loudF he mu lv) lo ls1 ho sp).length = sp.length := by
          rw [← hfo]; first | (rw [c34]; rfl) | rw [spF_lt (by rw [hls]; exact c45)] | rw [spF_ge (by rw [hls]; exact c45)]
        have hP : va_P (dC, dI) vwCl [(f0, .inr (0, [.ref f1, .ref f2, .ref f3, .ref s0, .int (oI (ldF (loudF he mu lv) lo ld ls1 ho)), .int (nI ho), .int (oI (loudF he mu lv)), .int (nI (lsF (loudF he mu lv) lo ls1))])), (f1, .inl (cZ, 6, .inl (cB he))), (f2, .inl (cI, 6, .inl (cN lv))), (f3, .inl (cZ, 6, .inl (cB mu))), (s0, .inr (1, [.ref s1, .int (nI ((spF (loudF he mu lv) lo ls1 ho sp).length))])), (s1, .inl (cI, 6, .inl (cN spr)))] H := by
          rw [ec9, ec6, ec8, ec7]
          exact hP
        have hD : va_D A [(f0, .inr (0, [.ref f1, .ref f2, .ref f3, .ref s0, .int (oI (ldF (loudF he mu lv) lo ld ls1 ho)), .int (nI ho), .int (oI (loudF he mu lv)), .int (nI (lsF (loudF he mu lv) lo ls1))])), (f1, .inl (cZ, 6, .inl (cB he))), (f2, .inl (cI, 6, .inl (cN lv))), (f3, .inl (cZ, 6, .inl (cB mu))), (s0, .inr (1, [.ref s1, .int (nI ((spF (loudF he mu lv) lo ls1 ho sp).length))])), (s1, .inl (cI, 6, .inl (cN spr)))] := by
          rw [ec9, ec6, ec8, ec7]
          exact hD
        refine kret 61 _ _ _ spr ?_ dX0_findSpeaker_61 hP hD hS
        · rw [← hfo]; first | (rw [c34]; exact hr) | (rw [spF_lt (by rw [hls]; exact c45)]; exact hr) | (rw [spF_ge (by rw [hls]; exact c45)]; exact hsp2)
      · obtain ⟨jf, rfl⟩ : ∃ j, fo = some j := Option.ne_none_iff_exists'.mp c34
        refine lv_aload_n hx hb dX0_findSpeaker_48 rfl (lv_at hl 1 rfl) ?_
        refine lv_iload_n hx hb dX0_findSpeaker_49 rfl (lv_at hl 0 rfl) ?_
        refine va_put (D := (dC, dI)) (ci := 0) (v := .int (oI (some jf))) (ty := .int) (C := RX0) (T := TX0) (N := 8) hx hb hts (wX0_findSpeaker_X0_u) tyX0 tyX0_ok nmX0 hown hK hP hD hS 0 rfl rfl 4 (by decide) (hts (.fieldLink RX0 29 "Confroom$Floor" "leader" "I") (wX0_findSpeaker_f29)) (fun _ h9 => h9) rfl (by decide +kernel) rfl rfl (Nat.le_of_ble_eq_true rfl) dX0_findSpeaker_50 (fun H locs hP hD hS => ?_)
        have hP : va_P (dC, dI) vwCl [(f0, .inr (0, [.ref f1, .ref f2, .ref f3, .ref s0, .int (oI (some jf)), .int (nI ho), .int (oI (some jf)), .int (nI 1)])), (f1, .inl (cZ, 6, .inl (cB he))), (f2, .inl (cI, 6, .inl (cN lv))), (f3, .inl (cZ, 6, .inl (cB mu))), (s0, .inr (1, [.ref s1, .int (nI sp.length)])), (s1, .inl (cI, 6, .inl (cN spr)))] H := hP
        have hD : va_D A [(f0, .inr (0, [.ref f1, .ref f2, .ref f3, .ref s0, .int (oI (some jf)), .int (nI ho), .int (oI (some jf)), .int (nI 1)])), (f1, .inl (cZ, 6, .inl (cB he))), (f2, .inl (cI, 6, .inl (cN lv))), (f3, .inl (cZ, 6, .inl (cB mu))), (s0, .inr (1, [.ref s1, .int (nI sp.length)])), (s1, .inl (cI, 6, .inl (cN spr)))] := hD
        refine lv_aload_n hx hb dX0_findSpeaker_53 rfl (lv_at hl 1 rfl) ?_
        refine va_get (D := (dC, dI)) (ci := 0) (v := .ref s0) (C := RX0) (T := TX0) (N := 8) hx hb hts (wX0_findSpeaker_X0_u) hown hK hP 0 rfl rfl 3 (by decide) (hts (.fieldLink RX0 25 "Confroom$Floor" "spoke" "LConfroom$Line;") (wX0_findSpeaker_f25)) (fun _ h9 => h9) rfl dX0_findSpeaker_54 ?_
        refine lv_iload_n hx hb dX0_findSpeaker_57 rfl (lv_at hl 0 rfl) ?_
        have hPc := hP.sub (ws' := [(s0, .inr (1, [.ref s1, .int (nI sp.length)])), (s1, .inl (cI, 6, .inl (cN spr)))]) [4, 5] rfl
        have hDc := hD.sub (ws' := [(s0, .inr (1, [.ref s1, .int (nI sp.length)])), (s1, .inl (cI, 6, .inl (cN spr)))]) [4, 5] (by decide) rfl
        have hFc := va_free (wc := [(s0, .inr (1, [.ref s1, .int (nI sp.length)])), (s1, .inl (cI, 6, .inl (cN spr)))]) hD hS hA [4, 5] rfl
        have hq10_0 : lrep spr sp := by
          first | assumption | omega
        have hq10_1 : jf < 6 := by
          exact hfl _ rfl
        refine va_callv (va_runV (As := [.int (nI jf)]) (rest := []) ⟨hx, hb, hml, hown, hts⟩ (c_X1_putFirst l dC dI cI cZ cG s0 s1 spr sp jf H.size hq10_0 hq10_1) (cwV 1 hts gX0_findSpeaker_X1_putFirst rfl rfl rfl (by decide +kernel) ⟨Nat.le_of_ble_eq_true rfl, Nat.le_of_ble_eq_true rfl⟩) ⟨fun a U g mk q => q_blind q, va_recv hK hPc (ci := 1) (q0 := 0) rfl rfl, fun U hU hW => ⟨rfl, by rw [hU], by rw [hU]; exact hPc, va_K.moved hW.alike hK, hDc.weaken (fun _ _ _ _ => trivial)⟩⟩ rfl rfl hl.1 rfl (lv_room (Nat.le_of_ble_eq_true rfl)) dX0_findSpeaker_58 ⟨by decide, by decide⟩) hS (fun q _ h => hFc q h) hFc (fun u t H1 locs ht hvm hw hB hz1 hk1 hS => ?_)
        obtain ⟨row2_10, hsp2, hP1, hD1⟩ := hB
        rw [ht] at hP1
        obtain ⟨hP, hD⟩ := va_join (wr := [(f0, .inr (0, [.ref f1, .ref f2, .ref f3, .ref s0, .int (oI (some jf)), .int (nI ho), .int (oI (some jf)), .int (nI 1)])), (f1, .inl (cZ, 6, .inl (cB he))), (f2, .inl (cI, 6, .inl (cN lv))), (f3, .inl (cZ, 6, .inl (cB mu)))]) (w1 := [(s0, .inr (1, [.ref s1, .int (nI ((jf :: dropL sp jf).length))])), (s1, .inl (cI, 6, .inl (cN row2_10)))]) hP hD [4, 5] [0, 1, 2, 3] rfl rfl (by decide) (by decide) hk1 hFc hP1 hD1
        generalize H1 = H at hP hS ⊢
        have hP := hP.sub (ws' := [(f0, .inr (0, [.ref f1, .ref f2, .ref f3, .ref s0, .int (oI (some jf)), .int (nI ho), .int (oI (some jf)), .int (nI 1)])), (f1, .inl (cZ, 6, .inl (cB he))), (f2, .inl (cI, 6, .inl (cN lv))), (f3, .inl (cZ, 6, .inl (cB mu))), (s0, .inr (1, [.ref s1, .int (nI ((jf :: dropL sp jf).length))])), (s1, .inl (cI, 6, .inl (cN row2_10)))]) [0, 1, 2, 3, 4, 5] rfl
        have hD := hD.sub (ws' := [(f0, .inr (0, [.ref f1, .ref f2, .ref f3, .ref s0, .int (oI (some jf)), .int (nI ho), .int (oI (some jf)), .int (nI 1)])), (f1, .inl (cZ, 6, .inl (cB he))), (f2, .inl (cI, 6, .inl (cN lv))), (f3, .inl (cZ, 6, .inl (cB mu))), (s0, .inr (1, [.ref s1, .int (nI ((jf :: dropL sp jf).length))])), (s1, .inl (cI, 6, .inl (cN row2_10)))]) [0, 1, 2, 3, 4, 5] (by decide) rfl
        have ec11 : ldF (loudF he mu lv) lo ld ls1 ho = (some jf) := by
          rw [← hfo]; first | (rw [c34]; rfl) | exact ldF_lt (by rw [hls]; exact c45) | exact ldF_ge (by rw [hls]; exact c45)
        have ec12 : loudF he mu lv = (some jf) := by
          exact hfo.symm
        have ec13 : lsF (loudF he mu lv) lo ls1 = 1 := by
          rw [← hfo]; exact hls
        have ec14 : (spF (loudF he mu lv) lo ls1 ho sp).length = (jf :: dropL sp jf).length := by
          rw [← hfo]; first | (rw [c34]; rfl) | rw [spF_lt (by rw [hls]; exact c45)] | rw [spF_ge (by rw [hls]; exact c45)]
        have hP : va_P (dC, dI) vwCl [(f0, .inr (0, [.ref f1, .ref f2, .ref f3, .ref s0, .int (oI (ldF (loudF he mu lv) lo ld ls1 ho)), .int (nI ho), .int (oI (loudF he mu lv)), .int (nI (lsF (loudF he mu lv) lo ls1))])), (f1, .inl (cZ, 6, .inl (cB he))), (f2, .inl (cI, 6, .inl (cN lv))), (f3, .inl (cZ, 6, .inl (cB mu))), (s0, .inr (1, [.ref s1, .int (nI ((spF (loudF he mu lv) lo ls1 ho sp).length))])), (s1, .inl (cI, 6, .inl (cN row2_10)))] H := by
          rw [ec14, ec11, ec13, ec12]
          exact hP
        have hD : va_D A [(f0, .inr (0, [.ref f1, .ref f2, .ref f3, .ref s0, .int (oI (ldF (loudF he mu lv) lo ld ls1 ho)), .int (nI ho), .int (oI (loudF he mu lv)), .int (nI (lsF (loudF he mu lv) lo ls1))])), (f1, .inl (cZ, 6, .inl (cB he))), (f2, .inl (cI, 6, .inl (cN lv))), (f3, .inl (cZ, 6, .inl (cB mu))), (s0, .inr (1, [.ref s1, .int (nI ((spF (loudF he mu lv) lo ls1 ho sp).length))])), (s1, .inl (cI, 6, .inl (cN row2_10)))] := by
          rw [ec14, ec11, ec13, ec12]
          exact hD
        refine kret 61 _ _ _ row2_10 ?_ dX0_findSpeaker_61 hP hD hS
        · rw [← hfo]; first | (rw [c34]; exact hr) | (rw [spF_lt (by rw [hls]; exact c45)]; exact hr) | (rw [spF_ge (by rw [hls]; exact c45)]; exact hsp2)
  · refine lv_aload_n hx hb dX0_findSpeaker_14 rfl (lv_at hl 1 rfl) ?_
    refine va_get (D := (dC, dI)) (ci := 0) (v := .int (nI ls1)) (C := RX0) (T := TX0) (N := 8) hx hb hts (wX0_findSpeaker_X0_u) hown hK hP 0 rfl rfl 7 (by decide) (hts (.fieldLink RX0 39 "Confroom$Floor" "loudSeconds" "I") (wX0_findSpeaker_f39)) (fun _ h9 => h9) rfl dX0_findSpeaker_15 ?_
    refine lv_iconst (v := nI 1) hx hb dX0_findSpeaker_18 (by decide) ?_
    refine lv_iadd hx hb dX0_findSpeaker_19 (q_as (nI_add ls1 1) ?_)
    refine lv_goto (tgt := 24) hx hb dX0_findSpeaker_20 (by decide) ?_
    have hls : lsF fo lo ls1 = (ls1 + 1) := by
      unfold lsF
      first | rw [if_pos c11] | rw [if_neg c11]
    refine va_put (D := (dC, dI)) (ci := 0) (v := .int (nI (ls1 + 1))) (ty := .int) (C := RX0) (T := TX0) (N := 8) hx hb hts (wX0_findSpeaker_X0_u) tyX0 tyX0_ok nmX0 hown hK hP hD hS 0 rfl rfl 7 (by decide) (hts (.fieldLink RX0 39 "Confroom$Floor" "loudSeconds" "I") (wX0_findSpeaker_f39)) (fun _ h9 => h9) rfl (by decide +kernel) rfl rfl (Nat.le_of_ble_eq_true rfl) dX0_findSpeaker_24 (fun H locs hP hD hS => ?_)
    have hP : va_P (dC, dI) vwCl [(f0, .inr (0, [.ref f1, .ref f2, .ref f3, .ref s0, .int (oI ld), .int (nI ho), .int (oI lo), .int (nI (ls1 + 1))])), (f1, .inl (cZ, 6, .inl (cB he))), (f2, .inl (cI, 6, .inl (cN lv))), (f3, .inl (cZ, 6, .inl (cB mu))), (s0, .inr (1, [.ref s1, .int (nI sp.length)])), (s1, .inl (cI, 6, .inl (cN spr)))] H := hP
    have hD : va_D A [(f0, .inr (0, [.ref f1, .ref f2, .ref f3, .ref s0, .int (oI ld), .int (nI ho), .int (oI lo), .int (nI (ls1 + 1))])), (f1, .inl (cZ, 6, .inl (cB he))), (f2, .inl (cI, 6, .inl (cN lv))), (f3, .inl (cZ, 6, .inl (cB mu))), (s0, .inr (1, [.ref s1, .int (nI sp.length)])), (s1, .inl (cI, 6, .inl (cN spr)))] := hD
    refine lv_aload_n hx hb dX0_findSpeaker_27 rfl (lv_at hl 1 rfl) ?_
    refine lv_iload_n hx hb dX0_findSpeaker_28 rfl (lv_at hl 0 rfl) ?_
    refine va_put (D := (dC, dI)) (ci := 0) (v := .int (oI fo)) (ty := .int) (C := RX0) (T := TX0) (N := 8) hx hb hts (wX0_findSpeaker_X0_u) tyX0 tyX0_ok nmX0 hown hK hP hD hS 0 rfl rfl 6 (by decide) (hts (.fieldLink RX0 36 "Confroom$Floor" "loudest" "I") (wX0_findSpeaker_f36)) (fun _ h9 => h9) rfl (by decide +kernel) rfl rfl (Nat.le_of_ble_eq_true rfl) dX0_findSpeaker_29 (fun H locs hP hD hS => ?_)
    have hP : va_P (dC, dI) vwCl [(f0, .inr (0, [.ref f1, .ref f2, .ref f3, .ref s0, .int (oI ld), .int (nI ho), .int (oI fo), .int (nI (ls1 + 1))])), (f1, .inl (cZ, 6, .inl (cB he))), (f2, .inl (cI, 6, .inl (cN lv))), (f3, .inl (cZ, 6, .inl (cB mu))), (s0, .inr (1, [.ref s1, .int (nI sp.length)])), (s1, .inl (cI, 6, .inl (cN spr)))] H := hP
    have hD : va_D A [(f0, .inr (0, [.ref f1, .ref f2, .ref f3, .ref s0, .int (oI ld), .int (nI ho), .int (oI fo), .int (nI (ls1 + 1))])), (f1, .inl (cZ, 6, .inl (cB he))), (f2, .inl (cI, 6, .inl (cN lv))), (f3, .inl (cZ, 6, .inl (cB mu))), (s0, .inr (1, [.ref s1, .int (nI sp.length)])), (s1, .inl (cI, 6, .inl (cN spr)))] := hD
    refine lv_iload_n hx hb dX0_findSpeaker_32 rfl (lv_at hl 0 rfl) ?_
    refine lv_iconst (v := oI none) hx hb dX0_findSpeaker_33 (by decide) ?_
    refine q_eqOn (tgt := 61) hx hb (o := fo) (fun j hj => Nat.lt_trans (hfl j hj) (by decide)) dX0_findSpeaker_34 (by decide) (fun c34 => ?_) (fun c34 => ?_)
    · have ec15 : ldF (loudF he mu lv) lo ld ls1 ho = ld := by
        rw [← hfo]; first | (rw [c34]; rfl) | exact ldF_lt (by rw [hls]; exact c45) | exact ldF_ge (by rw [hls]; exact c45)
      have ec16 : loudF he mu lv = fo := by
        exact hfo.symm
      have ec17 : lsF (loudF he mu lv) lo ls1 = ls1 + 1 := by
        rw [← hfo]; exact hls
      have ec18 : (spF (loudF he mu lv) lo ls1 ho sp).length = sp.length := by
        rw [← hfo]; first | (rw [c34]; rfl) | rw [spF_lt (by rw [hls]; exact c45)] | rw [spF_ge (by rw [hls]; exact c45)]
      have hP : va_P (dC, dI) vwCl [(f0, .inr (0, [.ref f1, .ref f2, .ref f3, .ref s0, .int (oI (ldF (loudF he mu lv) lo ld ls1 ho)), .int (nI ho), .int (oI (loudF he mu lv)), .int (nI (lsF (loudF he mu lv) lo ls1))])), (f1, .inl (cZ, 6, .inl (cB he))), (f2, .inl (cI, 6, .inl (cN lv))), (f3, .inl (cZ, 6, .inl (cB mu))), (s0, .inr (1, [.ref s1, .int (nI ((spF (loudF he mu lv) lo ls1 ho sp).length))])), (s1, .inl (cI, 6, .inl (cN spr)))] H := by
        rw [ec18, ec15, ec17, ec16]
        exact hP
      have hD : va_D A [(f0, .inr (0, [.ref f1, .ref f2, .ref f3, .ref s0, .int (oI (ldF (loudF he mu lv) lo ld ls1 ho)), .int (nI ho), .int (oI (loudF he mu lv)), .int (nI (lsF (loudF he mu lv) lo ls1))])), (f1, .inl (cZ, 6, .inl (cB he))), (f2, .inl (cI, 6, .inl (cN lv))), (f3, .inl (cZ, 6, .inl (cB mu))), (s0, .inr (1, [.ref s1, .int (nI ((spF (loudF he mu lv) lo ls1 ho sp).length))])), (s1, .inl (cI, 6, .inl (cN spr)))] := by
        rw [ec18, ec15, ec17, ec16]
        exact hD
      refine kret 61 _ _ _ spr ?_ dX0_findSpeaker_61 hP hD hS
      · rw [← hfo]; first | (rw [c34]; exact hr) | (rw [spF_lt (by rw [hls]; exact c45)]; exact hr) | (rw [spF_ge (by rw [hls]; exact c45)]; exact hsp2)
    · refine lv_aload_n hx hb dX0_findSpeaker_37 rfl (lv_at hl 1 rfl) ?_
      refine va_get (D := (dC, dI)) (ci := 0) (v := .int (nI (ls1 + 1))) (C := RX0) (T := TX0) (N := 8) hx hb hts (wX0_findSpeaker_X0_u) hown hK hP 0 rfl rfl 7 (by decide) (hts (.fieldLink RX0 39 "Confroom$Floor" "loudSeconds" "I") (wX0_findSpeaker_f39)) (fun _ h9 => h9) rfl dX0_findSpeaker_38 ?_
      refine lv_aload_n hx hb dX0_findSpeaker_41 rfl (lv_at hl 1 rfl) ?_
      refine va_get (D := (dC, dI)) (ci := 0) (v := .int (nI ho)) (C := RX0) (T := TX0) (N := 8) hx hb hts (wX0_findSpeaker_X0_u) hown hK hP 0 rfl rfl 5 (by decide) (hts (.fieldLink RX0 33 "Confroom$Floor" "hold" "I") (wX0_findSpeaker_f33)) (fun _ h9 => h9) rfl dX0_findSpeaker_42 ?_
      refine q_lt (tgt := 61) hx hb (a := (ls1 + 1)) (b := ho) (by omega) (by omega) dX0_findSpeaker_45 (by decide) (fun c45 => ?_) (fun c45 => ?_)
      · have ec19 : ldF (loudF he mu lv) lo ld ls1 ho = ld := by
          rw [← hfo]; first | (rw [c34]; rfl) | exact ldF_lt (by rw [hls]; exact c45) | exact ldF_ge (by rw [hls]; exact c45)
        have ec20 : loudF he mu lv = fo := by
          exact hfo.symm
        have ec21 : lsF (loudF he mu lv) lo ls1 = ls1 + 1 := by
          rw [← hfo]; exact hls
        have ec22 : (spF (loudF he mu lv) lo ls1 ho sp).length = sp.length := by
          rw [← hfo]; first | (rw [c34]; rfl) | rw [spF_lt (by rw [hls]; exact c45)] | rw [spF_ge (by rw [hls]; exact c45)]
        have hP : va_P (dC, dI) vwCl [(f0, .inr (0, [.ref f1, .ref f2, .ref f3, .ref s0, .int (oI (ldF (loudF he mu lv) lo ld ls1 ho)), .int (nI ho), .int (oI (loudF he mu lv)), .int (nI (lsF (loudF he mu lv) lo ls1))])), (f1, .inl (cZ, 6, .inl (cB he))), (f2, .inl (cI, 6, .inl (cN lv))), (f3, .inl (cZ, 6, .inl (cB mu))), (s0, .inr (1, [.ref s1, .int (nI ((spF (loudF he mu lv) lo ls1 ho sp).length))])), (s1, .inl (cI, 6, .inl (cN spr)))] H := by
          rw [ec22, ec19, ec21, ec20]
          exact hP
        have hD : va_D A [(f0, .inr (0, [.ref f1, .ref f2, .ref f3, .ref s0, .int (oI (ldF (loudF he mu lv) lo ld ls1 ho)), .int (nI ho), .int (oI (loudF he mu lv)), .int (nI (lsF (loudF he mu lv) lo ls1))])), (f1, .inl (cZ, 6, .inl (cB he))), (f2, .inl (cI, 6, .inl (cN lv))), (f3, .inl (cZ, 6, .inl (cB mu))), (s0, .inr (1, [.ref s1, .int (nI ((spF (loudF he mu lv) lo ls1 ho sp).length))])), (s1, .inl (cI, 6, .inl (cN spr)))] := by
          rw [ec22, ec19, ec21, ec20]
          exact hD
        refine kret 61 _ _ _ spr ?_ dX0_findSpeaker_61 hP hD hS
        · rw [← hfo]; first | (rw [c34]; exact hr) | (rw [spF_lt (by rw [hls]; exact c45)]; exact hr) | (rw [spF_ge (by rw [hls]; exact c45)]; exact hsp2)
      · obtain ⟨jf, rfl⟩ : ∃ j, fo = some j := Option.ne_none_iff_exists'.mp c34
        refine lv_aload_n hx hb dX0_findSpeaker_48 rfl (lv_at hl 1 rfl) ?_
        refine lv_iload_n hx hb dX0_findSpeaker_49 rfl (lv_at hl 0 rfl) ?_
        refine va_put (D := (dC, dI)) (ci := 0) (v := .int (oI (some jf))) (ty := .int) (C := RX0) (T := TX0) (N := 8) hx hb hts (wX0_findSpeaker_X0_u) tyX0 tyX0_ok nmX0 hown hK hP hD hS 0 rfl rfl 4 (by decide) (hts (.fieldLink RX0 29 "Confroom$Floor" "leader" "I") (wX0_findSpeaker_f29)) (fun _ h9 => h9) rfl (by decide +kernel) rfl rfl (Nat.le_of_ble_eq_true rfl) dX0_findSpeaker_50 (fun H locs hP hD hS => ?_)
        have hP : va_P (dC, dI) vwCl [(f0, .inr (0, [.ref f1, .ref f2, .ref f3, .ref s0, .int (oI (some jf)), .int (nI ho), .int (oI (some jf)), .int (nI (ls1 + 1))])), (f1, .inl (cZ, 6, .inl (cB he))), (f2, .inl (cI, 6, .inl (cN lv))), (f3, .inl (cZ, 6, .inl (cB mu))), (s0, .inr (1, [.ref s1, .int (nI sp.length)])), (s1, .inl (cI, 6, .inl (cN spr)))] H := hP
        have hD : va_D A [(f0, .inr (0, [.ref f1, .ref f2, .ref f3, .ref s0, .int (oI (some jf)), .int (nI ho), .int (oI (some jf)), .int (nI (ls1 + 1))])), (f1, .inl (cZ, 6, .inl (cB he))), (f2, .inl (cI, 6, .inl (cN lv))), (f3, .inl (cZ, 6, .inl (cB mu))), (s0, .inr (1, [.ref s1, .int (nI sp.length)])), (s1, .inl (cI, 6, .inl (cN spr)))] := hD
        refine lv_aload_n hx hb dX0_findSpeaker_53 rfl (lv_at hl 1 rfl) ?_
        refine va_get (D := (dC, dI)) (ci := 0) (v := .ref s0) (C := RX0) (T := TX0) (N := 8) hx hb hts (wX0_findSpeaker_X0_u) hown hK hP 0 rfl rfl 3 (by decide) (hts (.fieldLink RX0 25 "Confroom$Floor" "spoke" "LConfroom$Line;") (wX0_findSpeaker_f25)) (fun _ h9 => h9) rfl dX0_findSpeaker_54 ?_
        refine lv_iload_n hx hb dX0_findSpeaker_57 rfl (lv_at hl 0 rfl) ?_
        have hPc := hP.sub (ws' := [(s0, .inr (1, [.ref s1, .int (nI sp.length)])), (s1, .inl (cI, 6, .inl (cN spr)))]) [4, 5] rfl
        have hDc := hD.sub (ws' := [(s0, .inr (1, [.ref s1, .int (nI sp.length)])), (s1, .inl (cI, 6, .inl (cN spr)))]) [4, 5] (by decide) rfl
        have hFc := va_free (wc := [(s0, .inr (1, [.ref s1, .int (nI sp.length)])), (s1, .inl (cI, 6, .inl (cN spr)))]) hD hS hA [4, 5] rfl
        have hq23_0 : lrep spr sp := by
          first | assumption | omega
        have hq23_1 : jf < 6 := by
          exact hfl _ rfl
        refine va_callv (va_runV (As := [.int (nI jf)]) (rest := []) ⟨hx, hb, hml, hown, hts⟩ (c_X1_putFirst l dC dI cI cZ cG s0 s1 spr sp jf H.size hq23_0 hq23_1) (cwV 1 hts gX0_findSpeaker_X1_putFirst rfl rfl rfl (by decide +kernel) ⟨Nat.le_of_ble_eq_true rfl, Nat.le_of_ble_eq_true rfl⟩) ⟨fun a U g mk q => q_blind q, va_recv hK hPc (ci := 1) (q0 := 0) rfl rfl, fun U hU hW => ⟨rfl, by rw [hU], by rw [hU]; exact hPc, va_K.moved hW.alike hK, hDc.weaken (fun _ _ _ _ => trivial)⟩⟩ rfl rfl hl.1 rfl (lv_room (Nat.le_of_ble_eq_true rfl)) dX0_findSpeaker_58 ⟨by decide, by decide⟩) hS (fun q _ h => hFc q h) hFc (fun u t H1 locs ht hvm hw hB hz1 hk1 hS => ?_)
        obtain ⟨row2_23, hsp2, hP1, hD1⟩ := hB
        rw [ht] at hP1
        obtain ⟨hP, hD⟩ := va_join (wr := [(f0, .inr (0, [.ref f1, .ref f2, .ref f3, .ref s0, .int (oI (some jf)), .int (nI ho), .int (oI (some jf)), .int (nI (ls1 + 1))])), (f1, .inl (cZ, 6, .inl (cB he))), (f2, .inl (cI, 6, .inl (cN lv))), (f3, .inl (cZ, 6, .inl (cB mu)))]) (w1 := [(s0, .inr (1, [.ref s1, .int (nI ((jf :: dropL sp jf).length))])), (s1, .inl (cI, 6, .inl (cN row2_23)))]) hP hD [4, 5] [0, 1, 2, 3] rfl rfl (by decide) (by decide) hk1 hFc hP1 hD1
        generalize H1 = H at hP hS ⊢
        have hP := hP.sub (ws' := [(f0, .inr (0, [.ref f1, .ref f2, .ref f3, .ref s0, .int (oI (some jf)), .int (nI ho), .int (oI (some jf)), .int (nI (ls1 + 1))])), (f1, .inl (cZ, 6, .inl (cB he))), (f2, .inl (cI, 6, .inl (cN lv))), (f3, .inl (cZ, 6, .inl (cB mu))), (s0, .inr (1, [.ref s1, .int (nI ((jf :: dropL sp jf).length))])), (s1, .inl (cI, 6, .inl (cN row2_23)))]) [0, 1, 2, 3, 4, 5] rfl
        have hD := hD.sub (ws' := [(f0, .inr (0, [.ref f1, .ref f2, .ref f3, .ref s0, .int (oI (some jf)), .int (nI ho), .int (oI (some jf)), .int (nI (ls1 + 1))])), (f1, .inl (cZ, 6, .inl (cB he))), (f2, .inl (cI, 6, .inl (cN lv))), (f3, .inl (cZ, 6, .inl (cB mu))), (s0, .inr (1, [.ref s1, .int (nI ((jf :: dropL sp jf).length))])), (s1, .inl (cI, 6, .inl (cN row2_23)))]) [0, 1, 2, 3, 4, 5] (by decide) rfl
        have ec24 : ldF (loudF he mu lv) lo ld ls1 ho = (some jf) := by
          rw [← hfo]; first | (rw [c34]; rfl) | exact ldF_lt (by rw [hls]; exact c45) | exact ldF_ge (by rw [hls]; exact c45)
        have ec25 : loudF he mu lv = (some jf) := by
          exact hfo.symm
        have ec26 : lsF (loudF he mu lv) lo ls1 = ls1 + 1 := by
          rw [← hfo]; exact hls
        have ec27 : (spF (loudF he mu lv) lo ls1 ho sp).length = (jf :: dropL sp jf).length := by
          rw [← hfo]; first | (rw [c34]; rfl) | rw [spF_lt (by rw [hls]; exact c45)] | rw [spF_ge (by rw [hls]; exact c45)]
        have hP : va_P (dC, dI) vwCl [(f0, .inr (0, [.ref f1, .ref f2, .ref f3, .ref s0, .int (oI (ldF (loudF he mu lv) lo ld ls1 ho)), .int (nI ho), .int (oI (loudF he mu lv)), .int (nI (lsF (loudF he mu lv) lo ls1))])), (f1, .inl (cZ, 6, .inl (cB he))), (f2, .inl (cI, 6, .inl (cN lv))), (f3, .inl (cZ, 6, .inl (cB mu))), (s0, .inr (1, [.ref s1, .int (nI ((spF (loudF he mu lv) lo ls1 ho sp).length))])), (s1, .inl (cI, 6, .inl (cN row2_23)))] H := by
          rw [ec27, ec24, ec26, ec25]
          exact hP
        have hD : va_D A [(f0, .inr (0, [.ref f1, .ref f2, .ref f3, .ref s0, .int (oI (ldF (loudF he mu lv) lo ld ls1 ho)), .int (nI ho), .int (oI (loudF he mu lv)), .int (nI (lsF (loudF he mu lv) lo ls1))])), (f1, .inl (cZ, 6, .inl (cB he))), (f2, .inl (cI, 6, .inl (cN lv))), (f3, .inl (cZ, 6, .inl (cB mu))), (s0, .inr (1, [.ref s1, .int (nI ((spF (loudF he mu lv) lo ls1 ho sp).length))])), (s1, .inl (cI, 6, .inl (cN row2_23)))] := by
          rw [ec27, ec24, ec26, ec25]
          exact hD
        refine kret 61 _ _ _ row2_23 ?_ dX0_findSpeaker_61 hP hD hS
        · rw [← hfo]; first | (rw [c34]; exact hr) | (rw [spF_lt (by rw [hls]; exact c45)]; exact hr) | (rw [spF_ge (by rw [hls]; exact c45)]; exact hsp2)

set_option maxHeartbeats 4000000 in
set_option maxRecDepth 100000 in
theorem c_X0_findSpeaker (l : Launch) (dC : Nat → ClassId) (dI : Nat → Nat → Nat) (cI cZ cG : ClassId) (f0 : Nat) (f1 : Nat) (f2 : Nat) (f3 : Nat) (s0 : Nat) (ld : Option Nat) (ho : Nat) (lo : Option Nat) (ls1 : Nat) (s1 : Nat) (he : Nat → Bool) (lv : Nat → Nat) (mu : Nat → Bool) (spr : Nat → Nat) (sp : List Nat) (sz : Nat) (hlv : ∀ k, lv k ≤ 100) (hr : lrep spr sp) (hlo : ∀ j, lo = some j → j < 6) (hls : ls1 < 1000000) (hho : ho ≤ 10) : Met l yX0_findSpeaker wsX0_findSpeaker ({ frames := 2, cells := 0, slots := 0, locals := 45 } : Room) (va_Pc [.ref f0] (fun U => U.heap.size = sz ∧ va_P (dC, dI) vwCl [(f0, .inr (0, [.ref f1, .ref f2, .ref f3, .ref s0, .int (oI ld), .int (nI ho), .int (oI lo), .int (nI ls1)])), (f1, .inl (cZ, 6, .inl (cB he))), (f2, .inl (cI, 6, .inl (cN lv))), (f3, .inl (cZ, 6, .inl (cB mu))), (s0, .inr (1, [.ref s1, .int (nI sp.length)])), (s1, .inl (cI, 6, .inl (cN spr)))] U.heap ∧ va_K (dC, dI) vwCl [(cI, .int), (cZ, .boolean), (cG, .array .int)] U ∧ va_D (fun _ => True) [(f0, .inr (0, [.ref f1, .ref f2, .ref f3, .ref s0, .int (oI ld), .int (nI ho), .int (oI lo), .int (nI ls1)])), (f1, .inl (cZ, 6, .inl (cB he))), (f2, .inl (cI, 6, .inl (cN lv))), (f3, .inl (cZ, 6, .inl (cB mu))), (s0, .inr (1, [.ref s1, .int (nI sp.length)])), (s1, .inl (cI, 6, .inl (cN spr)))])) (va_Qv (fun (_ : Unit) => True) (fun (_ : Unit) t => ∃ (spr2 : Nat → Nat), (lrep spr2 (spF (loudF he mu lv) lo ls1 ho sp)) ∧ va_P (dC, dI) vwCl [(f0, .inr (0, [.ref f1, .ref f2, .ref f3, .ref s0, .int (oI (ldF (loudF he mu lv) lo ld ls1 ho)), .int (nI ho), .int (oI (loudF he mu lv)), .int (nI (lsF (loudF he mu lv) lo ls1))])), (f1, .inl (cZ, 6, .inl (cB he))), (f2, .inl (cI, 6, .inl (cN lv))), (f3, .inl (cZ, 6, .inl (cB mu))), (s0, .inr (1, [.ref s1, .int (nI ((spF (loudF he mu lv) lo ls1 ho sp).length))])), (s1, .inl (cI, 6, .inl (cN spr2)))] t.heap ∧ va_D (va_A [(f0, .inr (0, [.ref f1, .ref f2, .ref f3, .ref s0, .int (oI ld), .int (nI ho), .int (oI lo), .int (nI ls1)])), (f1, .inl (cZ, 6, .inl (cB he))), (f2, .inl (cI, 6, .inl (cN lv))), (f3, .inl (cZ, 6, .inl (cB mu))), (s0, .inr (1, [.ref s1, .int (nI sp.length)])), (s1, .inl (cI, 6, .inl (cN spr)))] sz) [(f0, .inr (0, [.ref f1, .ref f2, .ref f3, .ref s0, .int (oI (ldF (loudF he mu lv) lo ld ls1 ho)), .int (nI ho), .int (oI (loudF he mu lv)), .int (nI (lsF (loudF he mu lv) lo ls1))])), (f1, .inl (cZ, 6, .inl (cB he))), (f2, .inl (cI, 6, .inl (cN lv))), (f3, .inl (cZ, 6, .inl (cB mu))), (s0, .inr (1, [.ref s1, .int (nI ((spF (loudF he mu lv) lo ls1 ho sp).length))])), (s1, .inl (cI, 6, .inl (cN spr2)))]) (va_A [(f0, .inr (0, [.ref f1, .ref f2, .ref f3, .ref s0, .int (oI ld), .int (nI ho), .int (oI lo), .int (nI ls1)])), (f1, .inl (cZ, 6, .inl (cB he))), (f2, .inl (cI, 6, .inl (cN lv))), (f3, .inl (cZ, 6, .inl (cB mu))), (s0, .inr (1, [.ref s1, .int (nI sp.length)])), (s1, .inl (cI, 6, .inl (cN spr)))] sz)) 0 0 (va_A [(f0, .inr (0, [.ref f1, .ref f2, .ref f3, .ref s0, .int (oI ld), .int (nI ho), .int (oI lo), .int (nI ls1)])), (f1, .inl (cZ, 6, .inl (cB he))), (f2, .inl (cI, 6, .inl (cN lv))), (f3, .inl (cZ, 6, .inl (cB mu))), (s0, .inr (1, [.ref s1, .int (nI sp.length)])), (s1, .inl (cI, 6, .inl (cN spr)))] sz) := by
  refine Met.ofW (cc := cX0_findSpeaker) (maxL := 2) (ret := none) (by decide) rfl ?_
  intro p e s m args below meth c s₁ B hml hv
  obtain ⟨rfl, hsz, hP, hK, hD0⟩ := hv
  have hts := atoms_spec (ws := wsX0_findSpeaker) B.pre
  have hown : s.vm.findClass RX0 = some m.cls := findClass_of_methodNamed B.named
  have hlocks := B.notSynchronized
  subst hsz
  have hD := hD0.self (sz := s.heap.size)
  have hA : ∀ q : Nat, s.heap.size ≤ q → va_A [(f0, .inr (0, [.ref f1, .ref f2, .ref f3, .ref s0, .int (oI ld), .int (nI ho), .int (oI lo), .int (nI ls1)])), (f1, .inl (cZ, 6, .inl (cB he))), (f2, .inl (cI, 6, .inl (cN lv))), (f3, .inl (cZ, 6, .inl (cB mu))), (s0, .inr (1, [.ref s1, .int (nI sp.length)])), (s1, .inl (cI, 6, .inl (cN spr)))] s.heap.size q := fun q h => Or.inr h
  have hl := lv_entry ([.ref f0]) (n := 2) (Nat.le_of_ble_eq_true rfl)
  rw [lg_entry_eq]
  generalize (lg_sl ([.ref f0]) ++ List.replicate (2 - (lg_sl ([.ref f0])).length) Slot.unset).toArray = ls at hl ⊢
  have hl : lv_has ls 2 [(0, .ref f0)] := hl
  have hx := B.exec
  have hb := B.bytes
  exact b_X0_findSpeaker hx hb hml hown hts hK hA f0 f1 f2 f3 s0 ld ho lo ls1 s1 he lv mu spr sp hlv hr hlo hls hho  hP hD va_S.rf hl (fun pcr H locs ls spr2 hp0 hd hP hD hS => W.vret hx hb B.returns (fun t ht hW => ⟨⟨(), rfl, trivial, spr2, hp0, by rw [ht]; exact hP, hD⟩, hS.F ht⟩) hS.2.2 hd)
