theorem wX3_startWith_f15 : Cond.fieldLink RX3 15 "Confroom$Sharing" "rest" "I" ∈ wsX3_startWith := by decide +kernel
theorem wX3_startWith_f9 : Cond.fieldLink RX3 9 "Confroom$Sharing" "given" "[I" ∈ wsX3_startWith := by decide +kernel
theorem wX3_startWith_X3_u : ∀ w ∈ u_ws RX3 TX3 2, w ∈ wsX3_startWith := by decide +kernel
set_option maxHeartbeats 4000000 in
set_option maxRecDepth 100000 in
theorem b_X3_startWith {p : Program} {l : Launch} {e : Env} {s : State} {m : MethodId} {args : Array Value} {below : List Frame} {meth : Method} {c : Code} {Q : State → Prop} {A : Nat → Prop} {dC : Nat → ClassId} {dI : Nat → Nat → Nat} {cI cZ cG : ClassId} (hx : p.tables.exec = Jvm.exec) (hb : c.code = cX3_startWith) (hml : c.maxLocals = 3) (hown : s.vm.findClass RX3 = some m.cls) (hts : ∀ w ∈ wsX3_startWith, w.before args s = true) (hK : va_K (dC, dI) vwCl [(cI, .int), (cZ, .boolean), (cG, .array .int)] s) (hA : ∀ q : Nat, s.heap.size ≤ q → A q) (g0 : Nat) (g1 : Nat) (rs : Nat) (gi : Nat → Nat) (es1 : Nat)   {H : Heap} {locs : List Loc} {ls : Array Slot} (hP : va_P (dC, dI) vwCl [(g0, .inr (3, [.ref g1, .int (nI rs)])), (g1, .inl (cI, 6, .inl (cN gi)))] H) (hD : va_D A [(g0, .inr (3, [.ref g1, .int (nI rs)])), (g1, .inl (cI, 6, .inl (cN gi)))]) (hS : va_S A s.heap H locs) (hl : lv_has ls 3 [(0, .ref g0), (1, .int (nI es1))]) (kret : ∀ (pcr : Nat) (H : Heap) (locs : List Loc) (ls : Array Slot) , decode cX3_startWith pcr = .ok (.return_, 1) → va_P (dC, dI) vwCl [(g0, .inr (3, [.ref g1, .int (nI es1)])), (g1, .inl (cI, 6, .inl (cN (zeroF gi 6))))] H → va_D A [(g0, .inr (3, [.ref g1, .int (nI es1)])), (g1, .inl (cI, 6, .inl (cN (zeroF gi 6))))] → va_S A s.heap H locs → W p l e ({ frames := 0, cells := 0, slots := 0, locals := 0 } : Room) s m args below meth c H locs 0 0 Q (F0 m pcr ls [])) : W p l e ({ frames := 0, cells := 0, slots := 0, locals := 0 } : Room) s m args below meth c H locs 0 0 Q (F0 m 0 ls []) := by
  refine lv_aload_n hx hb dX3_startWith_0 rfl (lv_at hl 0 rfl) ?_
  refine lv_iload_n hx hb dX3_startWith_1 rfl (lv_at hl 1 rfl) ?_
  refine va_put (D := (dC, dI)) (ci := 3) (v := .int (nI es1)) (ty := .int) (C := RX3) (T := TX3) (N := 2) hx hb hts (wX3_startWith_X3_u) tyX3 tyX3_ok nmX3 hown hK hP hD hS 0 rfl rfl 1 (by decide) (hts (.fieldLink RX3 15 "Confroom$Sharing" "rest" "I") (wX3_startWith_f15)) (fun _ h9 => h9) rfl (by decide +kernel) rfl rfl (Nat.le_of_ble_eq_true rfl) dX3_startWith_2 (fun H locs hP hD hS => ?_)
  have hP : va_P (dC, dI) vwCl [(g0, .inr (3, [.ref g1, .int (nI es1)])), (g1, .inl (cI, 6, .inl (cN gi)))] H := hP
  have hD : va_D A [(g0, .inr (3, [.ref g1, .int (nI es1)])), (g1, .inl (cI, 6, .inl (cN gi)))] := hD
  refine lv_iconst (v := nI 0) hx hb dX3_startWith_5 (by decide) ?_
  refine lv_istore_n (lv' := [(2, .int (nI 0)), (0, .ref g0), (1, .int (nI es1))]) hx hb dX3_startWith_6 rfl hl (by decide) rfl (fun ls hl => ?_)
  have L7 : ∀ (n : Nat) (i : Nat) (gi2 : Nat → Nat) (H : Heap) (locs : List Loc) (ls : Array Slot), (i ≤ 6) → (gi2 = zeroF gi i) → (6 - i < n) → va_P (dC, dI) vwCl [(g0, .inr (3, [.ref g1, .int (nI es1)])), (g1, .inl (cI, 6, .inl (cN gi2)))] H → va_D A [(g0, .inr (3, [.ref g1, .int (nI es1)])), (g1, .inl (cI, 6, .inl (cN gi2)))] → va_S A s.heap H locs → lv_has ls 3 [(0, .ref g0), (1, .int (nI es1)), (2, .int (nI i))] → W p l e ({ frames := 0, cells := 0, slots := 0, locals := 0 } : Room) s m args below meth c H locs 0 0 Q (F0 m 7 ls []) := by
    intro n
    induction n with
    | zero =>
      intro i gi2 H locs ls hi hh hm
      exact absurd hm (Nat.not_lt_zero _)
    | succ n ih7 =>
      intro i gi2 H locs ls hi hh hm hP hD hS hl
      refine lv_iload_n hx hb dX3_startWith_7 rfl (lv_at hl 2 rfl) ?_
      refine lv_bipush (v := nI 6) hx hb dX3_startWith_8 (by decide) ?_
      refine q_ge (tgt := 26) hx hb (a := i) (b := 6) (by omega) (by omega) dX3_startWith_10 (by decide) (fun c10 => ?_) (fun c10 => ?_)
      · have ec1 : zeroF gi 6 = gi2 := by
          rw [hh, show i = 6 by omega]
        have hP : va_P (dC, dI) vwCl [(g0, .inr (3, [.ref g1, .int (nI es1)])), (g1, .inl (cI, 6, .inl (cN (zeroF gi 6))))] H := by
          rw [ec1]
          exact hP
        have hD : va_D A [(g0, .inr (3, [.ref g1, .int (nI es1)])), (g1, .inl (cI, 6, .inl (cN (zeroF gi 6))))] := by
          rw [ec1]
          exact hD
        refine kret 26 _ _ _   dX3_startWith_26 hP hD hS
      · refine lv_aload_n hx hb dX3_startWith_13 rfl (lv_at hl 0 rfl) ?_
        refine va_get (D := (dC, dI)) (ci := 3) (v := .ref g1) (C := RX3) (T := TX3) (N := 2) hx hb hts (wX3_startWith_X3_u) hown hK hP 0 rfl rfl 0 (by decide) (hts (.fieldLink RX3 9 "Confroom$Sharing" "given" "[I") (wX3_startWith_f9)) (fun _ h9 => h9) rfl dX3_startWith_14 ?_
        refine lv_iload_n hx hb dX3_startWith_17 rfl (lv_at hl 2 rfl) ?_
        refine lv_iconst (v := nI 0) hx hb dX3_startWith_18 (by decide) ?_
        refine q_sN hx hb hK hP hD hS 1 0 rfl rfl (k := i) (x := 0) (by omega) (by decide) dX3_startWith_19 (fun H locs hP hD hS => ?_)
        have hP : va_P (dC, dI) vwCl [(g0, .inr (3, [.ref g1, .int (nI es1)])), (g1, .inl (cI, 6, .inl (cN (va_up gi2 i 0))))] H := hP
        have hD : va_D A [(g0, .inr (3, [.ref g1, .int (nI es1)])), (g1, .inl (cI, 6, .inl (cN (va_up gi2 i 0))))] := hD
        refine lv_iinc (v := nI (i + 1)) (lv' := [(2, .int (nI (i + 1))), (0, .ref g0), (1, .int (nI es1))]) hx hb dX3_startWith_20 hl (k := 2) rfl (q_inc i 1) (by decide) rfl (fun ls hl => ?_)
        refine lv_goto (tgt := 7) hx hb dX3_startWith_23 (by decide) ?_
        refine ih7 (i + 1) (va_up gi2 i 0) _ _ _ ?_ ?_ (by omega) hP hD hS (lv_sub hl [1, 2, 0] rfl)
        · omega
        · subst hh
          exact zeroF_s gi i
  refine L7 _ 0 gi _ _ _ ?_ ?_ (Nat.lt_succ_self _) hP hD hS (lv_sub hl [1, 2, 0] rfl)
  · omega
  · exact zeroF_0 gi

set_option maxHeartbeats 4000000 in
set_option maxRecDepth 100000 in
theorem c_X3_startWith (l : Launch) (dC : Nat → ClassId) (dI : Nat → Nat → Nat) (cI cZ cG : ClassId) (g0 : Nat) (g1 : Nat) (rs : Nat) (gi : Nat → Nat) (es1 : Nat) (sz : Nat)  : Met l yX3_startWith wsX3_startWith ({ frames := 0, cells := 0, slots := 0, locals := 0 } : Room) (va_Pc [.ref g0, .int (nI es1)] (fun U => U.heap.size = sz ∧ va_P (dC, dI) vwCl [(g0, .inr (3, [.ref g1, .int (nI rs)])), (g1, .inl (cI, 6, .inl (cN gi)))] U.heap ∧ va_K (dC, dI) vwCl [(cI, .int), (cZ, .boolean), (cG, .array .int)] U ∧ va_D (fun _ => True) [(g0, .inr (3, [.ref g1, .int (nI rs)])), (g1, .inl (cI, 6, .inl (cN gi)))])) (va_Qv (fun (_ : Unit) => True) (fun (_ : Unit) t => va_P (dC, dI) vwCl [(g0, .inr (3, [.ref g1, .int (nI es1)])), (g1, .inl (cI, 6, .inl (cN (zeroF gi 6))))] t.heap ∧ va_D (va_A [(g0, .inr (3, [.ref g1, .int (nI rs)])), (g1, .inl (cI, 6, .inl (cN gi)))] sz) [(g0, .inr (3, [.ref g1, .int (nI es1)])), (g1, .inl (cI, 6, .inl (cN (zeroF gi 6))))]) (va_A [(g0, .inr (3, [.ref g1, .int (nI rs)])), (g1, .inl (cI, 6, .inl (cN gi)))] sz)) 0 0 (va_A [(g0, .inr (3, [.ref g1, .int (nI rs)])), (g1, .inl (cI, 6, .inl (cN gi)))] sz) := by
  refine Met.ofW (cc := cX3_startWith) (maxL := 3) (ret := none) (by decide) rfl ?_
  intro p e s m args below meth c s₁ B hml hv
  obtain ⟨rfl, hsz, hP, hK, hD0⟩ := hv
  have hts := atoms_spec (ws := wsX3_startWith) B.pre
  have hown : s.vm.findClass RX3 = some m.cls := findClass_of_methodNamed B.named
  have hlocks := B.notSynchronized
  subst hsz
  have hD := hD0.self (sz := s.heap.size)
  have hA : ∀ q : Nat, s.heap.size ≤ q → va_A [(g0, .inr (3, [.ref g1, .int (nI rs)])), (g1, .inl (cI, 6, .inl (cN gi)))] s.heap.size q := fun q h => Or.inr h
  have hl := lv_entry ([.ref g0, .int (nI es1)]) (n := 3) (Nat.le_of_ble_eq_true rfl)
  rw [lg_entry_eq]
  generalize (lg_sl ([.ref g0, .int (nI es1)]) ++ List.replicate (3 - (lg_sl ([.ref g0, .int (nI es1)])).length) Slot.unset).toArray = ls at hl ⊢
  have hl : lv_has ls 3 [(0, .ref g0), (1, .int (nI es1))] := hl
  have hx := B.exec
  have hb := B.bytes
  exact b_X3_startWith hx hb hml hown hts hK hA g0 g1 rs gi es1   hP hD va_S.rf hl (fun pcr H locs ls   hd hP hD hS => W.vret hx hb B.returns (fun t ht hW => ⟨⟨(), rfl, trivial, by rw [ht]; exact hP, hD⟩, hS.F ht⟩) hS.2.2 hd)
theorem wX3_giveFirstLayer_f15 : Cond.fieldLink RX3 15 "Confroom$Sharing" "rest" "I" ∈ wsX3_giveFirstLayer := by decide +kernel
theorem wX3_giveFirstLayer_f45 : Cond.fieldLink RX3 45 "Confroom$Streams" "base" "[I" ∈ wsX3_giveFirstLayer := by decide +kernel
theorem wX3_giveFirstLayer_f9 : Cond.fieldLink RX3 9 "Confroom$Sharing" "given" "[I" ∈ wsX3_giveFirstLayer := by decide +kernel
theorem wX3_giveFirstLayer_X3_u : ∀ w ∈ u_ws RX3 TX3 2, w ∈ wsX3_giveFirstLayer := by decide +kernel
theorem wX3_giveFirstLayer_X4_u : ∀ w ∈ u_ws RX4 TX4 7, w ∈ wsX3_giveFirstLayer := by decide +kernel
set_option maxHeartbeats 4000000 in
set_option maxRecDepth 100000 in
theorem b_X3_giveFirstLayer {p : Program} {l : Launch} {e : Env} {s : State} {m : MethodId} {args : Array Value} {below : List Frame} {meth : Method} {c : Code} {Q : State → Prop} {A : Nat → Prop} {dC : Nat → ClassId} {dI : Nat → Nat → Nat} {cI cZ cG : ClassId} (hx : p.tables.exec = Jvm.exec) (hb : c.code = cX3_giveFirstLayer) (hml : c.maxLocals = 3) (hown : s.vm.findClass RX3 = some m.cls) (hts : ∀ w ∈ wsX3_giveFirstLayer, w.before args s = true) (hK : va_K (dC, dI) vwCl [(cI, .int), (cZ, .boolean), (cG, .array .int)] s) (hA : ∀ q : Nat, s.heap.size ≤ q → A q) (g0 : Nat) (g1 : Nat) (rs : Nat) (t0 : Nat) (t1 : Nat) (t2 : Nat) (t3 : Nat) (t4 : Nat) (t5 : Nat) (u0 : Nat) (li : Nat) (gi : Nat → Nat) (ba : Nat → Nat) (ot : Nat) (hp : ot < 6) (hgi : ∀ k, k < 6 → gi k ≤ 3) (hba : ∀ k, ba k ≤ 100) (hrs : rs ≤ 2000)  {H : Heap} {locs : List Loc} {ls : Array Slot} (hP : va_P (dC, dI) vwCl [(g0, .inr (3, [.ref g1, .int (nI rs)])), (g1, .inl (cI, 6, .inl (cN gi))), (t0, .inr (4, [.ref t1, .ref t2, .ref t3, .ref t4, .ref u0, .int (nI li), .ref t5])), (t1, .inl (cI, 6, .inl (cN ba)))] H) (hD : va_D A [(g0, .inr (3, [.ref g1, .int (nI rs)])), (g1, .inl (cI, 6, .inl (cN gi))), (t0, .inr (4, [.ref t1, .ref t2, .ref t3, .ref t4, .ref u0, .int (nI li), .ref t5])), (t1, .inl (cI, 6, .inl (cN ba)))]) (hS : va_S A s.heap H locs) (hl : lv_has ls 3 [(0, .ref g0), (1, .int (nI ot)), (2, .ref t0)]) (kret : ∀ (pcr : Nat) (H : Heap) (locs : List Loc) (ls : Array Slot) , decode cX3_giveFirstLayer pcr = .ok (.ireturn, 1) → va_P (dC, dI) vwCl [(g0, .inr (3, [.ref g1, .int (nI (r1F ba gi rs ot))])), (g1, .inl (cI, 6, .inl (cN (g1F ba gi rs ot)))), (t0, .inr (4, [.ref t1, .ref t2, .ref t3, .ref t4, .ref u0, .int (nI li), .ref t5])), (t1, .inl (cI, 6, .inl (cN ba)))] H → va_D A [(g0, .inr (3, [.ref g1, .int (nI (r1F ba gi rs ot))])), (g1, .inl (cI, 6, .inl (cN (g1F ba gi rs ot)))), (t0, .inr (4, [.ref t1, .ref t2, .ref t3, .ref t4, .ref u0, .int (nI li), .ref t5])), (t1, .inl (cI, 6, .inl (cN ba)))] → va_S A s.heap H locs → W p l e ({ frames := 0, cells := 0, slots := 0, locals := 0 } : Room) s m args below meth c H locs 0 0 Q (F0 m pcr ls [.int (bI (b1F ba gi rs ot))])) : W p l e ({ frames := 0, cells := 0, slots := 0, locals := 0 } : Room) s m args below meth c H locs 0 0 Q (F0 m 0 ls []) := by
  refine lv_aload_n hx hb dX3_giveFirstLayer_0 rfl (lv_at hl 0 rfl) ?_
  refine va_get (D := (dC, dI)) (ci := 3) (v := .ref g1) (C := RX3) (T := TX3) (N := 2) hx hb hts (wX3_giveFirstLayer_X3_u) hown hK hP 0 rfl rfl 0 (by decide) (hts (.fieldLink RX3 9 "Confroom$Sharing" "given" "[I") (wX3_giveFirstLayer_f9)) (fun _ h9 => h9) rfl dX3_giveFirstLayer_1 ?_
  refine lv_iload_n hx hb dX3_giveFirstLayer_4 rfl (lv_at hl 1 rfl) ?_
  refine q_iN hx hb hK hP 1 0 rfl rfl (k := ot) (by omega) (by decide) dX3_giveFirstLayer_5 ?_
  have hv1 := hgi ot (by omega)
  refine q_0ne (tgt := 22) hx hb (a := (gi ot)) (by omega) dX3_giveFirstLayer_6 (by decide) (fun c6 => ?_) (fun c6 => ?_)
  · have hb1 : b1F ba gi rs ot = false := by first | exact b1_n1 c6 | exact b1_n2 c19
    refine lv_iconst (v := nI 0) hx hb dX3_giveFirstLayer_22 (by decide) ?_
    have ec2 : r1F ba gi rs ot = rs := by
      exact r1_n hb1
    have ec3 : g1F ba gi rs ot = gi := by
      exact g1_n hb1
    have hP : va_P (dC, dI) vwCl [(g0, .inr (3, [.ref g1, .int (nI (r1F ba gi rs ot))])), (g1, .inl (cI, 6, .inl (cN (g1F ba gi rs ot)))), (t0, .inr (4, [.ref t1, .ref t2, .ref t3, .ref t4, .ref u0, .int (nI li), .ref t5])), (t1, .inl (cI, 6, .inl (cN ba)))] H := by
      rw [ec2, ec3]
      exact hP
    have hD : va_D A [(g0, .inr (3, [.ref g1, .int (nI (r1F ba gi rs ot))])), (g1, .inl (cI, 6, .inl (cN (g1F ba gi rs ot)))), (t0, .inr (4, [.ref t1, .ref t2, .ref t3, .ref t4, .ref u0, .int (nI li), .ref t5])), (t1, .inl (cI, 6, .inl (cN ba)))] := by
      rw [ec2, ec3]
      exact hD
    have ev4 : bI false = bI (b1F ba gi rs ot) := by rw [hb1]
    refine q_as ((show nI 0 = bI false from rfl).trans ev4) ?_
    refine kret 23 _ _ _   dX3_giveFirstLayer_23 hP hD hS
  · refine lv_aload_n hx hb dX3_giveFirstLayer_9 rfl (lv_at hl 2 rfl) ?_
    refine va_get (D := (dC, dI)) (ci := 4) (v := .ref t1) (C := RX4) (T := TX4) (N := 7) hx hb hts (wX3_giveFirstLayer_X4_u) hown hK hP 2 rfl rfl 0 (by decide) (hts (.fieldLink RX3 45 "Confroom$Streams" "base" "[I") (wX3_giveFirstLayer_f45)) (fun _ h9 => h9) rfl dX3_giveFirstLayer_10 ?_
    refine lv_iload_n hx hb dX3_giveFirstLayer_13 rfl (lv_at hl 1 rfl) ?_
    refine q_iN hx hb hK hP 3 0 rfl rfl (k := ot) (by omega) (by decide) dX3_giveFirstLayer_14 ?_
    have hv5 := hba ot
    refine lv_aload_n hx hb dX3_giveFirstLayer_15 rfl (lv_at hl 0 rfl) ?_
    refine va_get (D := (dC, dI)) (ci := 3) (v := .int (nI rs)) (C := RX3) (T := TX3) (N := 2) hx hb hts (wX3_giveFirstLayer_X3_u) hown hK hP 0 rfl rfl 1 (by decide) (hts (.fieldLink RX3 15 "Confroom$Sharing" "rest" "I") (wX3_giveFirstLayer_f15)) (fun _ h9 => h9) rfl dX3_giveFirstLayer_16 ?_
    refine q_le (tgt := 24) hx hb (a := (ba ot)) (b := rs) (by omega) (by omega) dX3_giveFirstLayer_19 (by decide) (fun c19 => ?_) (fun c19 => ?_)
    · have hb1 := b1_y (ba := ba) c6 c19
      refine lv_aload_n hx hb dX3_giveFirstLayer_24 rfl (lv_at hl 0 rfl) ?_
      refine va_get (D := (dC, dI)) (ci := 3) (v := .ref g1) (C := RX3) (T := TX3) (N := 2) hx hb hts (wX3_giveFirstLayer_X3_u) hown hK hP 0 rfl rfl 0 (by decide) (hts (.fieldLink RX3 9 "Confroom$Sharing" "given" "[I") (wX3_giveFirstLayer_f9)) (fun _ h9 => h9) rfl dX3_giveFirstLayer_25 ?_
      refine lv_iload_n hx hb dX3_giveFirstLayer_28 rfl (lv_at hl 1 rfl) ?_
      refine lv_iconst (v := nI 1) hx hb dX3_giveFirstLayer_29 (by decide) ?_
      refine q_sN hx hb hK hP hD hS 1 0 rfl rfl (k := ot) (x := 1) (by omega) (by decide) dX3_giveFirstLayer_30 (fun H locs hP hD hS => ?_)
      have hP : va_P (dC, dI) vwCl [(g0, .inr (3, [.ref g1, .int (nI rs)])), (g1, .inl (cI, 6, .inl (cN (va_up gi ot 1)))), (t0, .inr (4, [.ref t1, .ref t2, .ref t3, .ref t4, .ref u0, .int (nI li), .ref t5])), (t1, .inl (cI, 6, .inl (cN ba)))] H := hP
      have hD : va_D A [(g0, .inr (3, [.ref g1, .int (nI rs)])), (g1, .inl (cI, 6, .inl (cN (va_up gi ot 1)))), (t0, .inr (4, [.ref t1, .ref t2, .ref t3, .ref t4, .ref u0, .int (nI li), .ref t5])), (t1, .inl (cI, 6, .inl (cN ba)))] := hD
      refine lv_aload_n hx hb dX3_giveFirstLayer_31 rfl (lv_at hl 0 rfl) ?_
      refine lv_dup hx hb dX3_giveFirstLayer_32 rfl ?_
      refine va_get (D := (dC, dI)) (ci := 3) (v := .int (nI rs)) (C := RX3) (T := TX3) (N := 2) hx hb hts (wX3_giveFirstLayer_X3_u) hown hK hP 0 rfl rfl 1 (by decide) (hts (.fieldLink RX3 15 "Confroom$Sharing" "rest" "I") (wX3_giveFirstLayer_f15)) (fun _ h9 => h9) rfl dX3_giveFirstLayer_33 ?_
      refine lv_aload_n hx hb dX3_giveFirstLayer_36 rfl (lv_at hl 2 rfl) ?_
      refine va_get (D := (dC, dI)) (ci := 4) (v := .ref t1) (C := RX4) (T := TX4) (N := 7) hx hb hts (wX3_giveFirstLayer_X4_u) hown hK hP 2 rfl rfl 0 (by decide) (hts (.fieldLink RX3 45 "Confroom$Streams" "base" "[I") (wX3_giveFirstLayer_f45)) (fun _ h9 => h9) rfl dX3_giveFirstLayer_37 ?_
      refine lv_iload_n hx hb dX3_giveFirstLayer_40 rfl (lv_at hl 1 rfl) ?_
      refine q_iN hx hb hK hP 3 0 rfl rfl (k := ot) (by omega) (by decide) dX3_giveFirstLayer_41 ?_
      have hv6 := hba ot
      refine lv_isub hx hb dX3_giveFirstLayer_42 (q_as (pk_sub (by omega)) ?_)
      refine va_put (D := (dC, dI)) (ci := 3) (v := .int (nI (rs - (ba ot)))) (ty := .int) (C := RX3) (T := TX3) (N := 2) hx hb hts (wX3_giveFirstLayer_X3_u) tyX3 tyX3_ok nmX3 hown hK hP hD hS 0 rfl rfl 1 (by decide) (hts (.fieldLink RX3 15 "Confroom$Sharing" "rest" "I") (wX3_giveFirstLayer_f15)) (fun _ h9 => h9) rfl (by decide +kernel) rfl rfl (Nat.le_of_ble_eq_true rfl) dX3_giveFirstLayer_43 (fun H locs hP hD hS => ?_)
      have hP : va_P (dC, dI) vwCl [(g0, .inr (3, [.ref g1, .int (nI (rs - (ba ot)))])), (g1, .inl (cI, 6, .inl (cN (va_up gi ot 1)))), (t0, .inr (4, [.ref t1, .ref t2, .ref t3, .ref t4, .ref u0, .int (nI li), .ref t5])), (t1, .inl (cI, 6, .inl (cN ba)))] H := hP
      have hD : va_D A [(g0, .inr (3, [.ref g1, .int (nI (rs - (ba ot)))])), (g1, .inl (cI, 6, .inl (cN (va_up gi ot 1)))), (t0, .inr (4, [.ref t1, .ref t2, .ref t3, .ref t4, .ref u0, .int (nI li), .ref t5])), (t1, .inl (cI, 6, .inl (cN ba)))] := hD
      refine lv_iconst (v := nI 1) hx hb dX3_giveFirstLayer_46 (by decide) ?_
      have ec7 : r1F ba gi rs ot = rs - (ba ot) := by
        exact r1_y hb1
      have ec8 : g1F ba gi rs ot = va_up gi ot 1 := by
        exact g1_y hb1
      have hP : va_P (dC, dI) vwCl [(g0, .inr (3, [.ref g1, .int (nI (r1F ba gi rs ot))])), (g1, .inl (cI, 6, .inl (cN (g1F ba gi rs ot)))), (t0, .inr (4, [.ref t1, .ref t2, .ref t3, .ref t4, .ref u0, .int (nI li), .ref t5])), (t1, .inl (cI, 6, .inl (cN ba)))] H := by
        rw [ec7, ec8]
        exact hP
      have hD : va_D A [(g0, .inr (3, [.ref g1, .int (nI (r1F ba gi rs ot))])), (g1, .inl (cI, 6, .inl (cN (g1F ba gi rs ot)))), (t0, .inr (4, [.ref t1, .ref t2, .ref t3, .ref t4, .ref u0, .int (nI li), .ref t5])), (t1, .inl (cI, 6, .inl (cN ba)))] := by
        rw [ec7, ec8]
        exact hD
      have ev9 : bI true = bI (b1F ba gi rs ot) := by rw [hb1]
      refine q_as ((show nI 1 = bI true from rfl).trans ev9) ?_
      refine kret 47 _ _ _   dX3_giveFirstLayer_47 hP hD hS
    · have hb1 : b1F ba gi rs ot = false := by first | exact b1_n1 c6 | exact b1_n2 c19
      refine lv_iconst (v := nI 0) hx hb dX3_giveFirstLayer_22 (by decide) ?_
      have ec10 : r1F ba gi rs ot = rs := by
        exact r1_n hb1
      have ec11 : g1F ba gi rs ot = gi := by
        exact g1_n hb1
      have hP : va_P (dC, dI) vwCl [(g0, .inr (3, [.ref g1, .int (nI (r1F ba gi rs ot))])), (g1, .inl (cI, 6, .inl (cN (g1F ba gi rs ot)))), (t0, .inr (4, [.ref t1, .ref t2, .ref t3, .ref t4, .ref u0, .int (nI li), .ref t5])), (t1, .inl (cI, 6, .inl (cN ba)))] H := by
        rw [ec10, ec11]
        exact hP
      have hD : va_D A [(g0, .inr (3, [.ref g1, .int (nI (r1F ba gi rs ot))])), (g1, .inl (cI, 6, .inl (cN (g1F ba gi rs ot)))), (t0, .inr (4, [.ref t1, .ref t2, .ref t3, .ref t4, .ref u0, .int (nI li), .ref t5])), (t1, .inl (cI, 6, .inl (cN ba)))] := by
        rw [ec10, ec11]
        exact hD
      have ev12 : bI false = bI (b1F ba gi rs ot) := by rw [hb1]
      refine q_as ((show nI 0 = bI false from rfl).trans ev12) ?_
      refine kret 23 _ _ _   dX3_giveFirstLayer_23 hP hD hS

set_option maxHeartbeats 4000000 in
set_option maxRecDepth 100000 in
theorem c_X3_giveFirstLayer (l : Launch) (dC : Nat → ClassId) (dI : Nat → Nat → Nat) (cI cZ cG : ClassId) (g0 : Nat) (g1 : Nat) (rs : Nat) (t0 : Nat) (t1 : Nat) (t2 : Nat) (t3 : Nat) (t4 : Nat) (t5 : Nat) (u0 : Nat) (li : Nat) (gi : Nat → Nat) (ba : Nat → Nat) (ot : Nat) (sz : Nat) (hp : ot < 6) (hgi : ∀ k, k < 6 → gi k ≤ 3) (hba : ∀ k, ba k ≤ 100) (hrs : rs ≤ 2000) : Met l yX3_giveFirstLayer wsX3_giveFirstLayer ({ frames := 0, cells := 0, slots := 0, locals := 0 } : Room) (va_Pc [.ref g0, .int (nI ot), .ref t0] (fun U => U.heap.size = sz ∧ va_P (dC, dI) vwCl [(g0, .inr (3, [.ref g1, .int (nI rs)])), (g1, .inl (cI, 6, .inl (cN gi))), (t0, .inr (4, [.ref t1, .ref t2, .ref t3, .ref t4, .ref u0, .int (nI li), .ref t5])), (t1, .inl (cI, 6, .inl (cN ba)))] U.heap ∧ va_K (dC, dI) vwCl [(cI, .int), (cZ, .boolean), (cG, .array .int)] U ∧ va_D (fun _ => True) [(g0, .inr (3, [.ref g1, .int (nI rs)])), (g1, .inl (cI, 6, .inl (cN gi))), (t0, .inr (4, [.ref t1, .ref t2, .ref t3, .ref t4, .ref u0, .int (nI li), .ref t5])), (t1, .inl (cI, 6, .inl (cN ba)))])) (va_Qi (fun (r u : Int32) => r = u) (fun (u : Int32) t => u = bI (b1F ba gi rs ot) ∧ va_P (dC, dI) vwCl [(g0, .inr (3, [.ref g1, .int (nI (r1F ba gi rs ot))])), (g1, .inl (cI, 6, .inl (cN (g1F ba gi rs ot)))), (t0, .inr (4, [.ref t1, .ref t2, .ref t3, .ref t4, .ref u0, .int (nI li), .ref t5])), (t1, .inl (cI, 6, .inl (cN ba)))] t.heap ∧ va_D (va_A [(g0, .inr (3, [.ref g1, .int (nI rs)])), (g1, .inl (cI, 6, .inl (cN gi))), (t0, .inr (4, [.ref t1, .ref t2, .ref t3, .ref t4, .ref u0, .int (nI li), .ref t5])), (t1, .inl (cI, 6, .inl (cN ba)))] sz) [(g0, .inr (3, [.ref g1, .int (nI (r1F ba gi rs ot))])), (g1, .inl (cI, 6, .inl (cN (g1F ba gi rs ot)))), (t0, .inr (4, [.ref t1, .ref t2, .ref t3, .ref t4, .ref u0, .int (nI li), .ref t5])), (t1, .inl (cI, 6, .inl (cN ba)))]) (va_A [(g0, .inr (3, [.ref g1, .int (nI rs)])), (g1, .inl (cI, 6, .inl (cN gi))), (t0, .inr (4, [.ref t1, .ref t2, .ref t3, .ref t4, .ref u0, .int (nI li), .ref t5])), (t1, .inl (cI, 6, .inl (cN ba)))] sz)) 0 0 (va_A [(g0, .inr (3, [.ref g1, .int (nI rs)])), (g1, .inl (cI, 6, .inl (cN gi))), (t0, .inr (4, [.ref t1, .ref t2, .ref t3, .ref t4, .ref u0, .int (nI li), .ref t5])), (t1, .inl (cI, 6, .inl (cN ba)))] sz) := by
  refine Met.ofW (cc := cX3_giveFirstLayer) (maxL := 3) (ret := (some .boolean)) (by decide) rfl ?_
  intro p e s m args below meth c s₁ B hml hv
  obtain ⟨rfl, hsz, hP, hK, hD0⟩ := hv
  have hts := atoms_spec (ws := wsX3_giveFirstLayer) B.pre
  have hown : s.vm.findClass RX3 = some m.cls := findClass_of_methodNamed B.named
  have hlocks := B.notSynchronized
  subst hsz
  have hD := hD0.self (sz := s.heap.size)
  have hA : ∀ q : Nat, s.heap.size ≤ q → va_A [(g0, .inr (3, [.ref g1, .int (nI rs)])), (g1, .inl (cI, 6, .inl (cN gi))), (t0, .inr (4, [.ref t1, .ref t2, .ref t3, .ref t4, .ref u0, .int (nI li), .ref t5])), (t1, .inl (cI, 6, .inl (cN ba)))] s.heap.size q := fun q h => Or.inr h
  have hl := lv_entry ([.ref g0, .int (nI ot), .ref t0]) (n := 3) (Nat.le_of_ble_eq_true rfl)
  rw [lg_entry_eq]
  generalize (lg_sl ([.ref g0, .int (nI ot), .ref t0]) ++ List.replicate (3 - (lg_sl ([.ref g0, .int (nI ot), .ref t0])).length) Slot.unset).toArray = ls at hl ⊢
  have hl : lv_has ls 3 [(0, .ref g0), (1, .int (nI ot)), (2, .ref t0)] := hl
  have hx := B.exec
  have hb := B.bytes
  exact b_X3_giveFirstLayer hx hb hml hown hts hK hA g0 g1 rs t0 t1 t2 t3 t4 t5 u0 li gi ba ot hp hgi hba hrs  hP hD va_S.rf hl (fun pcr H locs ls   hd hP hD hS => W.zret hx hb B.returns (q_nz _) (fun t ht hW => ⟨⟨_, _, rfl, rfl, rfl, by rw [ht]; exact hP, hD⟩, hS.F ht⟩) hS.2.2 hd)
theorem wX3_giveNextLayer_f15 : Cond.fieldLink RX3 15 "Confroom$Sharing" "rest" "I" ∈ wsX3_giveNextLayer := by decide +kernel
theorem wX3_giveNextLayer_f50 : Cond.fieldLink RX3 50 "Confroom$Streams" "step" "[I" ∈ wsX3_giveNextLayer := by decide +kernel
theorem wX3_giveNextLayer_f9 : Cond.fieldLink RX3 9 "Confroom$Sharing" "given" "[I" ∈ wsX3_giveNextLayer := by decide +kernel
theorem wX3_giveNextLayer_X3_u : ∀ w ∈ u_ws RX3 TX3 2, w ∈ wsX3_giveNextLayer := by decide +kernel
theorem wX3_giveNextLayer_X4_u : ∀ w ∈ u_ws RX4 TX4 7, w ∈ wsX3_giveNextLayer := by decide +kernel
set_option maxHeartbeats 4000000 in
set_option maxRecDepth 100000 in
theorem b_X3_giveNextLayer {p : Program} {l : Launch} {e : Env} {s : State} {m : MethodId} {args : Array Value} {below : List Frame} {meth : Method} {c : Code} {Q : State → Prop} {A : Nat → Prop} {dC : Nat → ClassId} {dI : Nat → Nat → Nat} {cI cZ cG : ClassId} (hx : p.tables.exec = Jvm.exec) (hb : c.code = cX3_giveNextLayer) (hml : c.maxLocals = 3) (hown : s.vm.findClass RX3 = some m.cls) (hts : ∀ w ∈ wsX3_giveNextLayer, w.before args s = true) (hK : va_K (dC, dI) vwCl [(cI, .int), (cZ, .boolean), (cG, .array .int)] s) (hA : ∀ q : Nat, s.heap.size ≤ q → A q) (g0 : Nat) (g1 : Nat) (rs : Nat) (t0 : Nat) (t1 : Nat) (t2 : Nat) (t3 : Nat) (t4 : Nat) (t5 : Nat) (u0 : Nat) (li : Nat) (gi : Nat → Nat) (se : Nat → Nat) (ot : Nat) (hp : ot < 6) (hgi : ∀ k, k < 6 → gi k ≤ 3) (hse : ∀ k, se k ≤ 100) (hrs : rs ≤ 2000)  {H : Heap} {locs : List Loc} {ls : Array Slot} (hP : va_P (dC, dI) vwCl [(g0, .inr (3, [.ref g1, .int (nI rs)])), (g1, .inl (cI, 6, .inl (cN gi))), (t0, .inr (4, [.ref t1, .ref t2, .ref t3, .ref t4, .ref u0, .int (nI li), .ref t5])), (t2, .inl (cI, 6, .inl (cN se)))] H) (hD : va_D A [(g0, .inr (3, [.ref g1, .int (nI rs)])), (g1, .inl (cI, 6, .inl (cN gi))), (t0, .inr (4, [.ref t1, .ref t2, .ref t3, .ref t4, .ref u0, .int (nI li), .ref t5])), (t2, .inl (cI, 6, .inl (cN se)))]) (hS : va_S A s.heap H locs) (hl : lv_has ls 3 [(0, .ref g0), (1, .int (nI ot)), (2, .ref t0)]) (kret : ∀ (pcr : Nat) (H : Heap) (locs : List Loc) (ls : Array Slot) , decode cX3_giveNextLayer pcr = .ok (.ireturn, 1) → va_P (dC, dI) vwCl [(g0, .inr (3, [.ref g1, .int (nI (r2F se gi rs ot))])), (g1, .inl (cI, 6, .inl (cN (g2F se gi rs ot)))), (t0, .inr (4, [.ref t1, .ref t2, .ref t3, .ref t4, .ref u0, .int (nI li), .ref t5])), (t2, .inl (cI, 6, .inl (cN se)))] H → va_D A [(g0, .inr (3, [.ref g1, .int (nI (r2F se gi rs ot))])), (g1, .inl (cI, 6, .inl (cN (g2F se gi rs ot)))), (t0, .inr (4, [.ref t1, .ref t2, .ref t3, .ref t4, .ref u0, .int (nI li), .ref t5])), (t2, .inl (cI, 6, .inl (cN se)))] → va_S A s.heap H locs → W p l e ({ frames := 0, cells := 0, slots := 0, locals := 0 } : Room) s m args below meth c H locs 0 0 Q (F0 m pcr ls [.int (bI (b2F se gi rs ot))])) : W p l e ({ frames := 0, cells := 0, slots := 0, locals := 0 } : Room) s m args below meth c H locs 0 0 Q (F0 m 0 ls []) := by
  refine lv_aload_n hx hb dX3_giveNextLayer_0 rfl (lv_at hl 0 rfl) ?_
  refine va_get (D := (dC, dI)) (ci := 3) (v := .ref g1) (C := RX3) (T := TX3) (N := 2) hx hb hts (wX3_giveNextLayer_X3_u) hown hK hP 0 rfl rfl 0 (by decide) (hts (.fieldLink RX3 9 "Confroom$Sharing" "given" "[I") (wX3_giveNextLayer_f9)) (fun _ h9 => h9) rfl dX3_giveNextLayer_1 ?_
  refine lv_iload_n hx hb dX3_giveNextLayer_4 rfl (lv_at hl 1 rfl) ?_
  refine q_iN hx hb hK hP 1 0 rfl rfl (k := ot) (by omega) (by decide) dX3_giveNextLayer_5 ?_
  have hv1 := hgi ot (by omega)
  refine q_0eq (tgt := 32) hx hb (a := (gi ot)) (by omega) dX3_giveNextLayer_6 (by decide) (fun c6 => ?_) (fun c6 => ?_)
  · have hb1 : b2F se gi rs ot = false := by first | exact b2_n1 c6 | exact b2_n2 c16 | exact b2_n3 c29
    refine lv_iconst (v := nI 0) hx hb dX3_giveNextLayer_32 (by decide) ?_
    have ec2 : r2F se gi rs ot = rs := by
      exact r2_n hb1
    have ec3 : g2F se gi rs ot = gi := by
      exact g2_n hb1
    have hP : va_P (dC, dI) vwCl [(g0, .inr (3, [.ref g1, .int (nI (r2F se gi rs ot))])), (g1, .inl (cI, 6, .inl (cN (g2F se gi rs ot)))), (t0, .inr (4, [.ref t1, .ref t2, .ref t3, .ref t4, .ref u0, .int (nI li), .ref t5])), (t2, .inl (cI, 6, .inl (cN se)))] H := by
      rw [ec2, ec3]
      exact hP
    have hD : va_D A [(g0, .inr (3, [.ref g1, .int (nI (r2F se gi rs ot))])), (g1, .inl (cI, 6, .inl (cN (g2F se gi rs ot)))), (t0, .inr (4, [.ref t1, .ref t2, .ref t3, .ref t4, .ref u0, .int (nI li), .ref t5])), (t2, .inl (cI, 6, .inl (cN se)))] := by
      rw [ec2, ec3]
      exact hD
    have ev4 : bI false = bI (b2F se gi rs ot) := by rw [hb1]
    refine q_as ((show nI 0 = bI false from rfl).trans ev4) ?_
    refine kret 33 _ _ _   dX3_giveNextLayer_33 hP hD hS
  · refine lv_aload_n hx hb dX3_giveNextLayer_9 rfl (lv_at hl 0 rfl) ?_
    refine va_get (D := (dC, dI)) (ci := 3) (v := .ref g1) (C := RX3) (T := TX3) (N := 2) hx hb hts (wX3_giveNextLayer_X3_u) hown hK hP 0 rfl rfl 0 (by decide) (hts (.fieldLink RX3 9 "Confroom$Sharing" "given" "[I") (wX3_giveNextLayer_f9)) (fun _ h9 => h9) rfl dX3_giveNextLayer_10 ?_
    refine lv_iload_n hx hb dX3_giveNextLayer_13 rfl (lv_at hl 1 rfl) ?_
    refine q_iN hx hb hK hP 1 0 rfl rfl (k := ot) (by omega) (by decide) dX3_giveNextLayer_14 ?_
    have hv5 := hgi ot (by omega)
    refine lv_iconst (v := nI 3) hx hb dX3_giveNextLayer_15 (by decide) ?_
    refine q_ge (tgt := 32) hx hb (a := (gi ot)) (b := 3) (by omega) (by omega) dX3_giveNextLayer_16 (by decide) (fun c16 => ?_) (fun c16 => ?_)
    · have hb1 : b2F se gi rs ot = false := by first | exact b2_n1 c6 | exact b2_n2 c16 | exact b2_n3 c29
      refine lv_iconst (v := nI 0) hx hb dX3_giveNextLayer_32 (by decide) ?_
      have ec6 : r2F se gi rs ot = rs := by
        exact r2_n hb1
      have ec7 : g2F se gi rs ot = gi := by
        exact g2_n hb1
      have hP : va_P (dC, dI) vwCl [(g0, .inr (3, [.ref g1, .int (nI (r2F se gi rs ot))])), (g1, .inl (cI, 6, .inl (cN (g2F se gi rs ot)))), (t0, .inr (4, [.ref t1, .ref t2, .ref t3, .ref t4, .ref u0, .int (nI li), .ref t5])), (t2, .inl (cI, 6, .inl (cN se)))] H := by
        rw [ec6, ec7]
        exact hP
      have hD : va_D A [(g0, .inr (3, [.ref g1, .int (nI (r2F se gi rs ot))])), (g1, .inl (cI, 6, .inl (cN (g2F se gi rs ot)))), (t0, .inr (4, [.ref t1, .ref t2, .ref t3, .ref t4, .ref u0, .int (nI li), .ref t5])), (t2, .inl (cI, 6, .inl (cN se)))] := by
        rw [ec6, ec7]
        exact hD
      have ev8 : bI false = bI (b2F se gi rs ot) := by rw [hb1]
      refine q_as ((show nI 0 = bI false from rfl).trans ev8) ?_
      refine kret 33 _ _ _   dX3_giveNextLayer_33 hP hD hS
    · refine lv_aload_n hx hb dX3_giveNextLayer_19 rfl (lv_at hl 2 rfl) ?_
      refine va_get (D := (dC, dI)) (ci := 4) (v := .ref t2) (C := RX4) (T := TX4) (N := 7) hx hb hts (wX3_giveNextLayer_X4_u) hown hK hP 2 rfl rfl 1 (by decide) (hts (.fieldLink RX3 50 "Confroom$Streams" "step" "[I") (wX3_giveNextLayer_f50)) (fun _ h9 => h9) rfl dX3_giveNextLayer_20 ?_
      refine lv_iload_n hx hb dX3_giveNextLayer_23 rfl (lv_at hl 1 rfl) ?_
      refine q_iN hx hb hK hP 3 0 rfl rfl (k := ot) (by omega) (by decide) dX3_giveNextLayer_24 ?_
      have hv9 := hse ot
      refine lv_aload_n hx hb dX3_giveNextLayer_25 rfl (lv_at hl 0 rfl) ?_
      refine va_get (D := (dC, dI)) (ci := 3) (v := .int (nI rs)) (C := RX3) (T := TX3) (N := 2) hx hb hts (wX3_giveNextLayer_X3_u) hown hK hP 0 rfl rfl 1 (by decide) (hts (.fieldLink RX3 15 "Confroom$Sharing" "rest" "I") (wX3_giveNextLayer_f15)) (fun _ h9 => h9) rfl dX3_giveNextLayer_26 ?_
      refine q_le (tgt := 34) hx hb (a := (se ot)) (b := rs) (by omega) (by omega) dX3_giveNextLayer_29 (by decide) (fun c29 => ?_) (fun c29 => ?_)
      · have hb1 := b2_y (se := se) c6 c16 c29
        refine lv_aload_n hx hb dX3_giveNextLayer_34 rfl (lv_at hl 0 rfl) ?_
        refine va_get (D := (dC, dI)) (ci := 3) (v := .ref g1) (C := RX3) (T := TX3) (N := 2) hx hb hts (wX3_giveNextLayer_X3_u) hown hK hP 0 rfl rfl 0 (by decide) (hts (.fieldLink RX3 9 "Confroom$Sharing" "given" "[I") (wX3_giveNextLayer_f9)) (fun _ h9 => h9) rfl dX3_giveNextLayer_35 ?_
        refine lv_iload_n hx hb dX3_giveNextLayer_38 rfl (lv_at hl 1 rfl) ?_
        refine lv_dup2_11 hx hb dX3_giveNextLayer_39 rfl rfl ?_
        refine q_iN hx hb hK hP 1 0 rfl rfl (k := ot) (by omega) (by decide) dX3_giveNextLayer_40 ?_
        have hv10 := hgi ot (by omega)
        refine lv_iconst (v := nI 1) hx hb dX3_giveNextLayer_41 (by decide) ?_
        refine lv_iadd hx hb dX3_giveNextLayer_42 (q_as (nI_add (gi ot) 1) ?_)
        refine q_sN hx hb hK hP hD hS 1 0 rfl rfl (k := ot) (x := (gi ot + 1)) (by omega) (by decide) dX3_giveNextLayer_43 (fun H locs hP hD hS => ?_)
        have hP : va_P (dC, dI) vwCl [(g0, .inr (3, [.ref g1, .int (nI rs)])), (g1, .inl (cI, 6, .inl (cN (va_up gi ot (gi ot + 1))))), (t0, .inr (4, [.ref t1, .ref t2, .ref t3, .ref t4, .ref u0, .int (nI li), .ref t5])), (t2, .inl (cI, 6, .inl (cN se)))] H := hP
        have hD : va_D A [(g0, .inr (3, [.ref g1, .int (nI rs)])), (g1, .inl (cI, 6, .inl (cN (va_up gi ot (gi ot + 1))))), (t0, .inr (4, [.ref t1, .ref t2, .ref t3, .ref t4, .ref u0, .int (nI li), .ref t5])), (t2, .inl (cI, 6, .inl (cN se)))] := hD
        refine lv_aload_n hx hb dX3_giveNextLayer_44 rfl (lv_at hl 0 rfl) ?_
        refine lv_dup hx hb dX3_giveNextLayer_45 rfl ?_
        refine va_get (D := (dC, dI)) (ci := 3) (v := .int (nI rs)) (C := RX3) (T := TX3) (N := 2) hx hb hts (wX3_giveNextLayer_X3_u) hown hK hP 0 rfl rfl 1 (by decide) (hts (.fieldLink RX3 15 "Confroom$Sharing" "rest" "I") (wX3_giveNextLayer_f15)) (fun _ h9 => h9) rfl dX3_giveNextLayer_46 ?_
        refine lv_aload_n hx hb dX3_giveNextLayer_49 rfl (lv_at hl 2 rfl) ?_
        refine va_get (D := (dC, dI)) (ci := 4) (v := .ref t2) (C := RX4) (T := TX4) (N := 7) hx hb hts (wX3_giveNextLayer_X4_u) hown hK hP 2 rfl rfl 1 (by decide) (hts (.fieldLink RX3 50 "Confroom$Streams" "step" "[I") (wX3_giveNextLayer_f50)) (fun _ h9 => h9) rfl dX3_giveNextLayer_50 ?_
        refine lv_iload_n hx hb dX3_giveNextLayer_53 rfl (lv_at hl 1 rfl) ?_
        refine q_iN hx hb hK hP 3 0 rfl rfl (k := ot) (by omega) (by decide) dX3_giveNextLayer_54 ?_
        have hv11 := hse ot
        refine lv_isub hx hb dX3_giveNextLayer_55 (q_as (pk_sub (by omega)) ?_)
        refine va_put (D := (dC, dI)) (ci := 3) (v := .int (nI (rs - (se ot)))) (ty := .int) (C := RX3) (T := TX3) (N := 2) hx hb hts (wX3_giveNextLayer_X3_u) tyX3 tyX3_ok nmX3 hown hK hP hD hS 0 rfl rfl 1 (by decide) (hts (.fieldLink RX3 15 "Confroom$Sharing" "rest" "I") (wX3_giveNextLayer_f15)) (fun _ h9 => h9) rfl (by decide +kernel) rfl rfl (Nat.le_of_ble_eq_true rfl) dX3_giveNextLayer_56 (fun H locs hP hD hS => ?_)
        have hP : va_P (dC, dI) vwCl [(g0, .inr (3, [.ref g1, .int (nI (rs - (se ot)))])), (g1, .inl (cI, 6, .inl (cN (va_up gi ot (gi ot + 1))))), (t0, .inr (4, [.ref t1, .ref t2, .ref t3, .ref t4, .ref u0, .int (nI li), .ref t5])), (t2, .inl (cI, 6, .inl (cN se)))] H := hP
        have hD : va_D A [(g0, .inr (3, [.ref g1, .int (nI (rs - (se ot)))])), (g1, .inl (cI, 6, .inl (cN (va_up gi ot (gi ot + 1))))), (t0, .inr (4, [.ref t1, .ref t2, .ref t3, .ref t4, .ref u0, .int (nI li), .ref t5])), (t2, .inl (cI, 6, .inl (cN se)))] := hD
        refine lv_iconst (v := nI 1) hx hb dX3_giveNextLayer_59 (by decide) ?_
        have ec12 : r2F se gi rs ot = rs - (se ot) := by
          exact r2_y hb1
        have ec13 : g2F se gi rs ot = va_up gi ot (gi ot + 1) := by
          exact g2_y hb1
        have hP : va_P (dC, dI) vwCl [(g0, .inr (3, [.ref g1, .int (nI (r2F se gi rs ot))])), (g1, .inl (cI, 6, .inl (cN (g2F se gi rs ot)))), (t0, .inr (4, [.ref t1, .ref t2, .ref t3, .ref t4, .ref u0, .int (nI li), .ref t5])), (t2, .inl (cI, 6, .inl (cN se)))] H := by
          rw [ec12, ec13]
          exact hP
        have hD : va_D A [(g0, .inr (3, [.ref g1, .int (nI (r2F se gi rs ot))])), (g1, .inl (cI, 6, .inl (cN (g2F se gi rs ot)))), (t0, .inr (4, [.ref t1, .ref t2, .ref t3, .ref t4, .ref u0, .int (nI li), .ref t5])), (t2, .inl (cI, 6, .inl (cN se)))] := by
          rw [ec12, ec13]
          exact hD
        have ev14 : bI true = bI (b2F se gi rs ot) := by rw [hb1]
        refine q_as ((show nI 1 = bI true from rfl).trans ev14) ?_
        refine kret 60 _ _ _   dX3_giveNextLayer_60 hP hD hS
      · have hb1 : b2F se gi rs ot = false := by first | exact b2_n1 c6 | exact b2_n2 c16 | exact b2_n3 c29
        refine lv_iconst (v := nI 0) hx hb dX3_giveNextLayer_32 (by decide) ?_
        have ec15 : r2F se gi rs ot = rs := by
          exact r2_n hb1
        have ec16 : g2F se gi rs ot = gi := by
          exact g2_n hb1
        have hP : va_P (dC, dI) vwCl [(g0, .inr (3, [.ref g1, .int (nI (r2F se gi rs ot))])), (g1, .inl (cI, 6, .inl (cN (g2F se gi rs ot)))), (t0, .inr (4, [.ref t1, .ref t2, .ref t3, .ref t4, .ref u0, .int (nI li), .ref t5])), (t2, .inl (cI, 6, .inl (cN se)))] H := by
          rw [ec15, ec16]
          exact hP
        have hD : va_D A [(g0, .inr (3, [.ref g1, .int (nI (r2F se gi rs ot))])), (g1, .inl (cI, 6, .inl (cN (g2F se gi rs ot)))), (t0, .inr (4, [.ref t1, .ref t2, .ref t3, .ref t4, .ref u0, .int (nI li), .ref t5])), (t2, .inl (cI, 6, .inl (cN se)))] := by
          rw [ec15, ec16]
          exact hD
        have ev17 : bI false = bI (b2F se gi rs ot) := by rw [hb1]
        refine q_as ((show nI 0 = bI false from rfl).trans ev17) ?_
        refine kret 33 _ _ _   dX3_giveNextLayer_33 hP hD hS

set_option maxHeartbeats 4000000 in
set_option maxRecDepth 100000 in
theorem c_X3_giveNextLayer (l : Launch) (dC : Nat → ClassId) (dI : Nat → Nat → Nat) (cI cZ cG : ClassId) (g0 : Nat) (g1 : Nat) (rs : Nat) (t0 : Nat) (t1 : Nat) (t2 : Nat) (t3 : Nat) (t4 : Nat) (t5 : Nat) (u0 : Nat) (li : Nat) (gi : Nat → Nat) (se : Nat → Nat) (ot : Nat) (sz : Nat) (hp : ot < 6) (hgi : ∀ k, k < 6 → gi k ≤ 3) (hse : ∀ k, se k ≤ 100) (hrs : rs ≤ 2000) : Met l yX3_giveNextLayer wsX3_giveNextLayer ({ frames := 0, cells := 0, slots := 0, locals := 0 } : Room) (va_Pc [.ref g0, .int (nI ot), .ref t0] (fun U => U.heap.size = sz ∧ va_P (dC, dI) vwCl [(g0, .inr (3, [.ref g1, .int (nI rs)])), (g1, .inl (cI, 6, .inl (cN gi))), (t0, .inr (4, [.ref t1, .ref t2, .ref t3, .ref t4, .ref u0, .int (nI li), .ref t5])), (t2, .inl (cI, 6, .inl (cN se)))] U.heap ∧ va_K (dC, dI) vwCl [(cI, .int), (cZ, .boolean), (cG, .array .int)] U ∧ va_D (fun _ => True) [(g0, .inr (3, [.ref g1, .int (nI rs)])), (g1, .inl (cI, 6, .inl (cN gi))), (t0, .inr (4, [.ref t1, .ref t2, .ref t3, .ref t4, .ref u0, .int (nI li), .ref t5])), (t2, .inl (cI, 6, .inl (cN se)))])) (va_Qi (fun (r u : Int32) => r = u) (fun (u : Int32) t => u = bI (b2F se gi rs ot) ∧ va_P (dC, dI) vwCl [(g0, .inr (3, [.ref g1, .int (nI (r2F se gi rs ot))])), (g1, .inl (cI, 6, .inl (cN (g2F se gi rs ot)))), (t0, .inr (4, [.ref t1, .ref t2, .ref t3, .ref t4, .ref u0, .int (nI li), .ref t5])), (t2, .inl (cI, 6, .inl (cN se)))] t.heap ∧ va_D (va_A [(g0, .inr (3, [.ref g1, .int (nI rs)])), (g1, .inl (cI, 6, .inl (cN gi))), (t0, .inr (4, [.ref t1, .ref t2, .ref t3, .ref t4, .ref u0, .int (nI li), .ref t5])), (t2, .inl (cI, 6, .inl (cN se)))] sz) [(g0, .inr (3, [.ref g1, .int (nI (r2F se gi rs ot))])), (g1, .inl (cI, 6, .inl (cN (g2F se gi rs ot)))), (t0, .inr (4, [.ref t1, .ref t2, .ref t3, .ref t4, .ref u0, .int (nI li), .ref t5])), (t2, .inl (cI, 6, .inl (cN se)))]) (va_A [(g0, .inr (3, [.ref g1, .int (nI rs)])), (g1, .inl (cI, 6, .inl (cN gi))), (t0, .inr (4, [.ref t1, .ref t2, .ref t3, .ref t4, .ref u0, .int (nI li), .ref t5])), (t2, .inl (cI, 6, .inl (cN se)))] sz)) 0 0 (va_A [(g0, .inr (3, [.ref g1, .int (nI rs)])), (g1, .inl (cI, 6, .inl (cN gi))), (t0, .inr (4, [.ref t1, .ref t2, .ref t3, .ref t4, .ref u0, .int (nI li), .ref t5])), (t2, .inl (cI, 6, .inl (cN se)))] sz) := by
  refine Met.ofW (cc := cX3_giveNextLayer) (maxL := 3) (ret := (some .boolean)) (by decide) rfl ?_
  intro p e s m args below meth c s₁ B hml hv
  obtain ⟨rfl, hsz, hP, hK, hD0⟩ := hv
  have hts := atoms_spec (ws := wsX3_giveNextLayer) B.pre
  have hown : s.vm.findClass RX3 = some m.cls := findClass_of_methodNamed B.named
  have hlocks := B.notSynchronized
  subst hsz
  have hD := hD0.self (sz := s.heap.size)
  have hA : ∀ q : Nat, s.heap.size ≤ q → va_A [(g0, .inr (3, [.ref g1, .int (nI rs)])), (g1, .inl (cI, 6, .inl (cN gi))), (t0, .inr (4, [.ref t1, .ref t2, .ref t3, .ref t4, .ref u0, .int (nI li), .ref t5])), (t2, .inl (cI, 6, .inl (cN se)))] s.heap.size q := fun q h => Or.inr h
  have hl := lv_entry ([.ref g0, .int (nI ot), .ref t0]) (n := 3) (Nat.le_of_ble_eq_true rfl)
  rw [lg_entry_eq]
  generalize (lg_sl ([.ref g0, .int (nI ot), .ref t0]) ++ List.replicate (3 - (lg_sl ([.ref g0, .int (nI ot), .ref t0])).length) Slot.unset).toArray = ls at hl ⊢
  have hl : lv_has ls 3 [(0, .ref g0), (1, .int (nI ot)), (2, .ref t0)] := hl
  have hx := B.exec
  have hb := B.bytes
  exact b_X3_giveNextLayer hx hb hml hown hts hK hA g0 g1 rs t0 t1 t2 t3 t4 t5 u0 li gi se ot hp hgi hse hrs  hP hD va_S.rf hl (fun pcr H locs ls   hd hP hD hS => W.zret hx hb B.returns (q_nz _) (fun t ht hW => ⟨⟨_, _, rfl, rfl, rfl, by rw [ht]; exact hP, hD⟩, hS.F ht⟩) hS.2.2 hd)
theorem wX3_giveOneFirstLayer_f23 : Cond.fieldLink RX3 23 "Confroom$Line" "count" "I" ∈ wsX3_giveOneFirstLayer := by decide +kernel
theorem wX3_giveOneFirstLayer_f28 : Cond.fieldLink RX3 28 "Confroom$Line" "row" "[I" ∈ wsX3_giveOneFirstLayer := by decide +kernel
theorem wX3_giveOneFirstLayer_X1_u : ∀ w ∈ u_ws RX1 TX1 2, w ∈ wsX3_giveOneFirstLayer := by decide +kernel
set_option maxHeartbeats 4000000 in
set_option maxRecDepth 100000 in
theorem b_X3_giveOneFirstLayer {p : Program} {l : Launch} {e : Env} {s : State} {m : MethodId} {args : Array Value} {below : List Frame} {meth : Method} {c : Code} {Q : State → Prop} {A : Nat → Prop} {dC : Nat → ClassId} {dI : Nat → Nat → Nat} {cI cZ cG : ClassId} (hx : p.tables.exec = Jvm.exec) (hb : c.code = cX3_giveOneFirstLayer) (hml : c.maxLocals = 4) (hown : s.vm.findClass RX3 = some m.cls) (hts : ∀ w ∈ wsX3_giveOneFirstLayer, w.before args s = true) (hK : va_K (dC, dI) vwCl [(cI, .int), (cZ, .boolean), (cG, .array .int)] s) (hA : ∀ q : Nat, s.heap.size ≤ q → A q) (g0 : Nat) (g1 : Nat) (rs : Nat) (t0 : Nat) (t1 : Nat) (t2 : Nat) (t3 : Nat) (t4 : Nat) (t5 : Nat) (u0 : Nat) (li : Nat) (v0 : Nat) (v1 : Nat) (gi : Nat → Nat) (ba : Nat → Nat) (vwr : Nat → Nat) (vw : List Nat) (hr : lrep vwr vw) (hgi : ∀ k, k < 6 → gi k ≤ 3) (hba : ∀ k, ba k ≤ 100) (hrs : rs ≤ 2000)  {H : Heap} {locs : List Loc} {ls : Array Slot} (hP : va_P (dC, dI) vwCl [(g0, .inr (3, [.ref g1, .int (nI rs)])), (g1, .inl (cI, 6, .inl (cN gi))), (t0, .inr (4, [.ref t1, .ref t2, .ref t3, .ref t4, .ref u0, .int (nI li), .ref t5])), (t1, .inl (cI, 6, .inl (cN ba))), (v0, .inr (1, [.ref v1, .int (nI vw.length)])), (v1, .inl (cI, 6, .inl (cN vwr)))] H) (hD : va_D A [(g0, .inr (3, [.ref g1, .int (nI rs)])), (g1, .inl (cI, 6, .inl (cN gi))), (t0, .inr (4, [.ref t1, .ref t2, .ref t3, .ref t4, .ref u0, .int (nI li), .ref t5])), (t1, .inl (cI, 6, .inl (cN ba))), (v0, .inr (1, [.ref v1, .int (nI vw.length)])), (v1, .inl (cI, 6, .inl (cN vwr)))]) (hS : va_S A s.heap H locs) (hl : lv_has ls 4 [(0, .ref g0), (1, .ref v0), (2, .ref t0)]) (kret : ∀ (pcr : Nat) (H : Heap) (locs : List Loc) (ls : Array Slot) , decode cX3_giveOneFirstLayer pcr = .ok (.ireturn, 1) → va_P (dC, dI) vwCl [(g0, .inr (3, [.ref g1, .int (nI (oneR1 ba gi rs vw))])), (g1, .inl (cI, 6, .inl (cN (oneG1 ba gi rs vw)))), (t0, .inr (4, [.ref t1, .ref t2, .ref t3, .ref t4, .ref u0, .int (nI li), .ref t5])), (t1, .inl (cI, 6, .inl (cN ba))), (v0, .inr (1, [.ref v1, .int (nI vw.length)])), (v1, .inl (cI, 6, .inl (cN vwr)))] H → va_D A [(g0, .inr (3, [.ref g1, .int (nI (oneR1 ba gi rs vw))])), (g1, .inl (cI, 6, .inl (cN (oneG1 ba gi rs vw)))), (t0, .inr (4, [.ref t1, .ref t2, .ref t3, .ref t4, .ref u0, .int (nI li), .ref t5])), (t1, .inl (cI, 6, .inl (cN ba))), (v0, .inr (1, [.ref v1, .int (nI vw.length)])), (v1, .inl (cI, 6, .inl (cN vwr)))] → va_S A s.heap H locs → W p l e ({ frames := 1, cells := 0, slots := 0, locals := 22 } : Room) s m args below meth c H locs 0 0 Q (F0 m pcr ls [.int (bI ((f1F ba gi rs vw).isSome))])) : W p l e ({ frames := 1, cells := 0, slots := 0, locals := 22 } : Room) s m args below meth c H locs 0 0 Q (F0 m 0 ls []) := by
  refine lv_iconst (v := nI 0) hx hb dX3_giveOneFirstLayer_0 (by decide) ?_
  refine lv_istore_n (lv' := [(3, .int (nI 0)), (0, .ref g0), (1, .ref v0), (2, .ref t0)]) hx hb dX3_giveOneFirstLayer_1 rfl hl (by decide) rfl (fun ls hl => ?_)
  have L2 : ∀ (n : Nat) (i : Nat) (H : Heap) (locs : List Loc) (ls : Array Slot), (i ≤ vw.length) → (∀ j, j < i → b1F ba gi rs (vw.getD j 0) = false) → (vw.length - i < n) → va_P (dC, dI) vwCl [(g0, .inr (3, [.ref g1, .int (nI rs)])), (g1, .inl (cI, 6, .inl (cN gi))), (t0, .inr (4, [.ref t1, .ref t2, .ref t3, .ref t4, .ref u0, .int (nI li), .ref t5])), (t1, .inl (cI, 6, .inl (cN ba))), (v0, .inr (1, [.ref v1, .int (nI vw.length)])), (v1, .inl (cI, 6, .inl (cN vwr)))] H → va_D A [(g0, .inr (3, [.ref g1, .int (nI rs)])), (g1, .inl (cI, 6, .inl (cN gi))), (t0, .inr (4, [.ref t1, .ref t2, .ref t3, .ref t4, .ref u0, .int (nI li), .ref t5])), (t1, .inl (cI, 6, .inl (cN ba))), (v0, .inr (1, [.ref v1, .int (nI vw.length)])), (v1, .inl (cI, 6, .inl (cN vwr)))] → va_S A s.heap H locs → lv_has ls 4 [(0, .ref g0), (1, .ref v0), (2, .ref t0), (3, .int (nI i))] → W p l e ({ frames := 1, cells := 0, slots := 0, locals := 22 } : Room) s m args below meth c H locs 0 0 Q (F0 m 2 ls []) := by
    intro n
    induction n with
    | zero =>
      intro i H locs ls hi hh hm
      exact absurd hm (Nat.not_lt_zero _)
    | succ n ih2 =>
      intro i H locs ls hi hh hm hP hD hS hl
      refine lv_iload_n hx hb dX3_giveOneFirstLayer_2 rfl (lv_at hl 3 rfl) ?_
      refine lv_aload_n hx hb dX3_giveOneFirstLayer_3 rfl (lv_at hl 1 rfl) ?_
      refine va_get (D := (dC, dI)) (ci := 1) (v := .int (nI vw.length)) (C := RX1) (T := TX1) (N := 2) hx hb hts (wX3_giveOneFirstLayer_X1_u) hown hK hP 4 rfl rfl 1 (by decide) (hts (.fieldLink RX3 23 "Confroom$Line" "count" "I") (wX3_giveOneFirstLayer_f23)) (fun _ h9 => h9) rfl dX3_giveOneFirstLayer_4 ?_
      have hlen := hr.len
      refine q_ge (tgt := 32) hx hb (a := i) (b := vw.length) (by omega) (by omega) dX3_giveOneFirstLayer_7 (by decide) (fun c7 => ?_) (fun c7 => ?_)
      · have hf : f1F ba gi rs vw = none := find_no vw (fun j hj => hh j (by omega))
        refine lv_iconst (v := nI 0) hx hb dX3_giveOneFirstLayer_32 (by decide) ?_
        have ec1 : oneR1 ba gi rs vw = rs := by
          exact (one1_n hf).2
        have ec2 : oneG1 ba gi rs vw = gi := by
          exact (one1_n hf).1
        have hP : va_P (dC, dI) vwCl [(g0, .inr (3, [.ref g1, .int (nI (oneR1 ba gi rs vw))])), (g1, .inl (cI, 6, .inl (cN (oneG1 ba gi rs vw)))), (t0, .inr (4, [.ref t1, .ref t2, .ref t3, .ref t4, .ref u0, .int (nI li), .ref t5])), (t1, .inl (cI, 6, .inl (cN ba))), (v0, .inr (1, [.ref v1, .int (nI vw.length)])), (v1, .inl (cI, 6, .inl (cN vwr)))] H := by
          rw [ec1, ec2]
          exact hP
        have hD : va_D A [(g0, .inr (3, [.ref g1, .int (nI (oneR1 ba gi rs vw))])), (g1, .inl (cI, 6, .inl (cN (oneG1 ba gi rs vw)))), (t0, .inr (4, [.ref t1, .ref t2, .ref t3, .ref t4, .ref u0, .int (nI li), .ref t5])), (t1, .inl (cI, 6, .inl (cN ba))), (v0, .inr (1, [.ref v1, .int (nI vw.length)])), (v1, .inl (cI, 6, .inl (cN vwr)))] := by
          rw [ec1, ec2]
          exact hD
        have ev3 : bI false = bI ((f1F ba gi rs vw).isSome) := by rw [hf]; rfl
        refine q_as ((show nI 0 = bI false from rfl).trans ev3) ?_
        refine kret 33 _ _ _   dX3_giveOneFirstLayer_33 hP hD hS
      · refine lv_aload_n hx hb dX3_giveOneFirstLayer_10 rfl (lv_at hl 0 rfl) ?_
        refine lv_aload_n hx hb dX3_giveOneFirstLayer_11 rfl (lv_at hl 1 rfl) ?_
        refine va_get (D := (dC, dI)) (ci := 1) (v := .ref v1) (C := RX1) (T := TX1) (N := 2) hx hb hts (wX3_giveOneFirstLayer_X1_u) hown hK hP 4 rfl rfl 0 (by decide) (hts (.fieldLink RX3 28 "Confroom$Line" "row" "[I") (wX3_giveOneFirstLayer_f28)) (fun _ h9 => h9) rfl dX3_giveOneFirstLayer_12 ?_
        refine lv_iload_n hx hb dX3_giveOneFirstLayer_15 rfl (lv_at hl 3 rfl) ?_
        refine q_iN hx hb hK hP 5 0 rfl rfl (k := i) (by omega) (by decide) dX3_giveOneFirstLayer_16 ?_
        have hrl := hr.lt c7
        refine lv_aload_n hx hb dX3_giveOneFirstLayer_17 rfl (lv_at hl 2 rfl) ?_
        have hPc := hP.sub (ws' := [(g0, .inr (3, [.ref g1, .int (nI rs)])), (g1, .inl (cI, 6, .inl (cN gi))), (t0, .inr (4, [.ref t1, .ref t2, .ref t3, .ref t4, .ref u0, .int (nI li), .ref t5])), (t1, .inl (cI, 6, .inl (cN ba)))]) [0, 1, 2, 3] rfl
        have hDc := hD.sub (ws' := [(g0, .inr (3, [.ref g1, .int (nI rs)])), (g1, .inl (cI, 6, .inl (cN gi))), (t0, .inr (4, [.ref t1, .ref t2, .ref t3, .ref t4, .ref u0, .int (nI li), .ref t5])), (t1, .inl (cI, 6, .inl (cN ba)))]) [0, 1, 2, 3] (by decide) rfl
        have hFc := va_free (wc := [(g0, .inr (3, [.ref g1, .int (nI rs)])), (g1, .inl (cI, 6, .inl (cN gi))), (t0, .inr (4, [.ref t1, .ref t2, .ref t3, .ref t4, .ref u0, .int (nI li), .ref t5])), (t1, .inl (cI, 6, .inl (cN ba)))]) hD hS hA [0, 1, 2, 3] rfl
        have hq4_0 : (vwr i) < 6 := by
          first | assumption | omega
        have hq4_1 : ∀ k, k < 6 → gi k ≤ 3 := by
          first | assumption | omega
        have hq4_2 : ∀ k, ba k ≤ 100 := by
          first | assumption | omega
        have hq4_3 : rs ≤ 2000 := by
          first | assumption | omega
        refine va_calli (va_runV (As := [.int (nI (vwr i)), .ref t0]) (rest := []) ⟨hx, hb, hml, hown, hts⟩ (c_X3_giveFirstLayer l dC dI cI cZ cG g0 g1 rs t0 t1 t2 t3 t4 t5 u0 li gi ba (vwr i) H.size hq4_0 hq4_1 hq4_2 hq4_3) (cwV 2 hts gX3_giveOneFirstLayer_X3_giveFirstLayer rfl rfl rfl (by decide +kernel) ⟨Nat.le_of_ble_eq_true rfl, Nat.le_of_ble_eq_true rfl⟩) ⟨fun a U g mk q => q_blind q, va_recv hK hPc (ci := 3) (q0 := 0) rfl rfl, fun U hU hW => ⟨rfl, by rw [hU], by rw [hU]; exact hPc, va_K.moved hW.alike hK, hDc.weaken (fun _ _ _ _ => trivial)⟩⟩ rfl rfl hl.1 rfl (lv_room (Nat.le_of_ble_eq_true rfl)) dX3_giveOneFirstLayer_18 ⟨by decide, by decide⟩) hS (fun q _ h => hFc q h) hFc (fun rv u t H1 locs ht hvm hw hB hz1 hk1 hS => ?_)
        obtain ⟨  hr4, hP1, hD1⟩ := hB
        rw [ht] at hP1
        subst hw
        subst hr4
        obtain ⟨hP, hD⟩ := va_join (wr := [(v0, .inr (1, [.ref v1, .int (nI vw.length)])), (v1, .inl (cI, 6, .inl (cN vwr)))]) (w1 := [(g0, .inr (3, [.ref g1, .int (nI (r1F ba gi rs (vwr i)))])), (g1, .inl (cI, 6, .inl (cN (g1F ba gi rs (vwr i))))), (t0, .inr (4, [.ref t1, .ref t2, .ref t3, .ref t4, .ref u0, .int (nI li), .ref t5])), (t1, .inl (cI, 6, .inl (cN ba)))]) hP hD [0, 1, 2, 3] [4, 5] rfl rfl (by decide) (by decide) hk1 hFc hP1 hD1
        generalize H1 = H at hP hS ⊢
        have hP := hP.sub (ws' := [(g0, .inr (3, [.ref g1, .int (nI (r1F ba gi rs (vwr i)))])), (g1, .inl (cI, 6, .inl (cN (g1F ba gi rs (vwr i))))), (t0, .inr (4, [.ref t1, .ref t2, .ref t3, .ref t4, .ref u0, .int (nI li), .ref t5])), (t1, .inl (cI, 6, .inl (cN ba))), (v0, .inr (1, [.ref v1, .int (nI vw.length)])), (v1, .inl (cI, 6, .inl (cN vwr)))]) [2, 3, 4, 5, 0, 1] rfl
        have hD := hD.sub (ws' := [(g0, .inr (3, [.ref g1, .int (nI (r1F ba gi rs (vwr i)))])), (g1, .inl (cI, 6, .inl (cN (g1F ba gi rs (vwr i))))), (t0, .inr (4, [.ref t1, .ref t2, .ref t3, .ref t4, .ref u0, .int (nI li), .ref t5])), (t1, .inl (cI, 6, .inl (cN ba))), (v0, .inr (1, [.ref v1, .int (nI vw.length)])), (v1, .inl (cI, 6, .inl (cN vwr)))]) [2, 3, 4, 5, 0, 1] (by decide) rfl
        refine q_zeq (tgt := 26) hx hb (b := (b1F ba gi rs (vwr i))) dX3_giveOneFirstLayer_21 (by decide) (fun c21 => ?_) (fun c21 => ?_)
        · have ef5 : g1F ba gi rs (vwr i) = gi := by
            exact g1_n c21
          have ef6 : r1F ba gi rs (vwr i) = rs := by
            exact r1_n c21
          rw [ef5, ef6] at hP hD
          refine lv_iinc (v := nI (i + 1)) (lv' := [(3, .int (nI (i + 1))), (0, .ref g0), (1, .ref v0), (2, .ref t0)]) hx hb dX3_giveOneFirstLayer_26 hl (k := 3) rfl (q_inc i 1) (by decide) rfl (fun ls hl => ?_)
          refine lv_goto (tgt := 2) hx hb dX3_giveOneFirstLayer_29 (by decide) ?_
          refine ih2 (i + 1) _ _ _ ?_ ?_ (by omega) hP hD hS (lv_sub hl [1, 2, 3, 0] rfl)
          · omega
          · intro j hj
            by_cases e9 : j = i
            · rw [e9, ← hr.2 i c7]; exact c21
            · exact hh j (by omega)
        · rw [hr.2 i c7] at c21
          have hf := find_at (q := fun o => b1F ba gi rs o) vw i c7 hh c21
          refine lv_iconst (v := nI 1) hx hb dX3_giveOneFirstLayer_24 (by decide) ?_
          have ec7 : oneR1 ba gi rs vw = r1F ba gi rs (vwr i) := by
            rw [hr.2 i c7]; exact (one1_y hf).2
          have ec8 : oneG1 ba gi rs vw = g1F ba gi rs (vwr i) := by
            rw [hr.2 i c7]; exact (one1_y hf).1
          have hP : va_P (dC, dI) vwCl [(g0, .inr (3, [.ref g1, .int (nI (oneR1 ba gi rs vw))])), (g1, .inl (cI, 6, .inl (cN (oneG1 ba gi rs vw)))), (t0, .inr (4, [.ref t1, .ref t2, .ref t3, .ref t4, .ref u0, .int (nI li), .ref t5])), (t1, .inl (cI, 6, .inl (cN ba))), (v0, .inr (1, [.ref v1, .int (nI vw.length)])), (v1, .inl (cI, 6, .inl (cN vwr)))] H := by
            rw [ec7, ec8]
            exact hP
          have hD : va_D A [(g0, .inr (3, [.ref g1, .int (nI (oneR1 ba gi rs vw))])), (g1, .inl (cI, 6, .inl (cN (oneG1 ba gi rs vw)))), (t0, .inr (4, [.ref t1, .ref t2, .ref t3, .ref t4, .ref u0, .int (nI li), .ref t5])), (t1, .inl (cI, 6, .inl (cN ba))), (v0, .inr (1, [.ref v1, .int (nI vw.length)])), (v1, .inl (cI, 6, .inl (cN vwr)))] := by
            rw [ec7, ec8]
            exact hD
          have ev9 : bI true = bI ((f1F ba gi rs vw).isSome) := by rw [show f1F ba gi rs vw = _ from hf]; rfl
          refine q_as ((show nI 1 = bI true from rfl).trans ev9) ?_
          refine kret 25 _ _ _   dX3_giveOneFirstLayer_25 hP hD hS
  refine L2 _ 0 _ _ _ ?_ ?_ (Nat.lt_succ_self _) hP hD hS (lv_sub hl [1, 2, 3, 0] rfl)
  · omega
  · intro j hj; exact absurd hj (Nat.not_lt_zero _)

set_option maxHeartbeats 4000000 in
set_option maxRecDepth 100000 in
theorem c_X3_giveOneFirstLayer (l : Launch) (dC : Nat → ClassId) (dI : Nat → Nat → Nat) (cI cZ cG : ClassId) (g0 : Nat) (g1 : Nat) (rs : Nat) (t0 : Nat) (t1 : Nat) (t2 : Nat) (t3 : Nat) (t4 : Nat) (t5 : Nat) (u0 : Nat) (li : Nat) (v0 : Nat) (v1 : Nat) (gi : Nat → Nat) (ba : Nat → Nat) (vwr : Nat → Nat) (vw : List Nat) (sz : Nat) (hr : lrep vwr vw) (hgi : ∀ k, k < 6 → gi k ≤ 3) (hba : ∀ k, ba k ≤ 100) (hrs : rs ≤ 2000) : Met l yX3_giveOneFirstLayer wsX3_giveOneFirstLayer ({ frames := 1, cells := 0, slots := 0, locals := 22 } : Room) (va_Pc [.ref g0, .ref v0, .ref t0] (fun U => U.heap.size = sz ∧ va_P (dC, dI) vwCl [(g0, .inr (3, [.ref g1, .int (nI rs)])), (g1, .inl (cI, 6, .inl (cN gi))), (t0, .inr (4, [.ref t1, .ref t2, .ref t3, .ref t4, .ref u0, .int (nI li), .ref t5])), (t1, .inl (cI, 6, .inl (cN ba))), (v0, .inr (1, [.ref v1, .int (nI vw.length)])), (v1, .inl (cI, 6, .inl (cN vwr)))] U.heap ∧ va_K (dC, dI) vwCl [(cI, .int), (cZ, .boolean), (cG, .array .int)] U ∧ va_D (fun _ => True) [(g0, .inr (3, [.ref g1, .int (nI rs)])), (g1, .inl (cI, 6, .inl (cN gi))), (t0, .inr (4, [.ref t1, .ref t2, .ref t3, .ref t4, .ref u0, .int (nI li), .ref t5])), (t1, .inl (cI, 6, .inl (cN ba))), (v0, .inr (1, [.ref v1, .int (nI vw.length)])), (v1, .inl (cI, 6, .inl (cN vwr)))])) (va_Qi (fun (r u : Int32) => r = u) (fun (u : Int32) t => u = bI ((f1F ba gi rs vw).isSome) ∧ va_P (dC, dI) vwCl [(g0, .inr (3, [.ref g1, .int (nI (oneR1 ba gi rs vw))])), (g1, .inl (cI, 6, .inl (cN (oneG1 ba gi rs vw)))), (t0, .inr (4, [.ref t1, .ref t2, .ref t3, .ref t4, .ref u0, .int (nI li), .ref t5])), (t1, .inl (cI, 6, .inl (cN ba))), (v0, .inr (1, [.ref v1, .int (nI vw.length)])), (v1, .inl (cI, 6, .inl (cN vwr)))] t.heap ∧ va_D (va_A [(g0, .inr (3, [.ref g1, .int (nI rs)])), (g1, .inl (cI, 6, .inl (cN gi))), (t0, .inr (4, [.ref t1, .ref t2, .ref t3, .ref t4, .ref u0, .int (nI li), .ref t5])), (t1, .inl (cI, 6, .inl (cN ba))), (v0, .inr (1, [.ref v1, .int (nI vw.length)])), (v1, .inl (cI, 6, .inl (cN vwr)))] sz) [(g0, .inr (3, [.ref g1, .int (nI (oneR1 ba gi rs vw))])), (g1, .inl (cI, 6, .inl (cN (oneG1 ba gi rs vw)))), (t0, .inr (4, [.ref t1, .ref t2, .ref t3, .ref t4, .ref u0, .int (nI li), .ref t5])), (t1, .inl (cI, 6, .inl (cN ba))), (v0, .inr (1, [.ref v1, .int (nI vw.length)])), (v1, .inl (cI, 6, .inl (cN vwr)))]) (va_A [(g0, .inr (3, [.ref g1, .int (nI rs)])), (g1, .inl (cI, 6, .inl (cN gi))), (t0, .inr (4, [.ref t1, .ref t2, .ref t3, .ref t4, .ref u0, .int (nI li), .ref t5])), (t1, .inl (cI, 6, .inl (cN ba))), (v0, .inr (1, [.ref v1, .int (nI vw.length)])), (v1, .inl (cI, 6, .inl (cN vwr)))] sz)) 0 0 (va_A [(g0, .inr (3, [.ref g1, .int (nI rs)])), (g1, .inl (cI, 6, .inl (cN gi))), (t0, .inr (4, [.ref t1, .ref t2, .ref t3, .ref t4, .ref u0, .int (nI li), .ref t5])), (t1, .inl (cI, 6, .inl (cN ba))), (v0, .inr (1, [.ref v1, .int (nI vw.length)])), (v1, .inl (cI, 6, .inl (cN vwr)))] sz) := by
  refine Met.ofW (cc := cX3_giveOneFirstLayer) (maxL := 4) (ret := (some .boolean)) (by decide) rfl ?_
  intro p e s m args below meth c s₁ B hml hv
  obtain ⟨rfl, hsz, hP, hK, hD0⟩ := hv
  have hts := atoms_spec (ws := wsX3_giveOneFirstLayer) B.pre
  have hown : s.vm.findClass RX3 = some m.cls := findClass_of_methodNamed B.named
  have hlocks := B.notSynchronized
  subst hsz
  have hD := hD0.self (sz := s.heap.size)
  have hA : ∀ q : Nat, s.heap.size ≤ q → va_A [(g0, .inr (3, [.ref g1, .int (nI rs)])), (g1, .inl (cI, 6, .inl (cN gi))), (t0, .inr (4, [.ref t1, .ref t2, .ref t3, .ref t4, .ref u0, .int (nI li), .ref t5])), (t1, .inl (cI, 6, .inl (cN ba))), (v0, .inr (1, [.ref v1, .int (nI vw.length)])), (v1, .inl (cI, 6, .inl (cN vwr)))] s.heap.size q := fun q h => Or.inr h
  have hl := lv_entry ([.ref g0, .ref v0, .ref t0]) (n := 4) (Nat.le_of_ble_eq_true rfl)
  rw [lg_entry_eq]
  generalize (lg_sl ([.ref g0, .ref v0, .ref t0]) ++ List.replicate (4 - (lg_sl ([.ref g0, .ref v0, .ref t0])).length) Slot.unset).toArray = ls at hl ⊢
  have hl : lv_has ls 4 [(0, .ref g0), (1, .ref v0), (2, .ref t0)] := hl
  have hx := B.exec
  have hb := B.bytes
  exact b_X3_giveOneFirstLayer hx hb hml hown hts hK hA g0 g1 rs t0 t1 t2 t3 t4 t5 u0 li v0 v1 gi ba vwr vw hr hgi hba hrs  hP hD va_S.rf hl (fun pcr H locs ls   hd hP hD hS => W.zret hx hb B.returns (q_nz _) (fun t ht hW => ⟨⟨_, _, rfl, rfl, rfl, by rw [ht]; exact hP, hD⟩, hS.F ht⟩) hS.2.2 hd)
theorem wX3_giveOneNextLayer_f23 : Cond.fieldLink RX3 23 "Confroom$Line" "count" "I" ∈ wsX3_giveOneNextLayer := by decide +kernel
theorem wX3_giveOneNextLayer_f28 : Cond.fieldLink RX3 28 "Confroom$Line" "row" "[I" ∈ wsX3_giveOneNextLayer := by decide +kernel
theorem wX3_giveOneNextLayer_X1_u : ∀ w ∈ u_ws RX1 TX1 2, w ∈ wsX3_giveOneNextLayer := by decide +kernel
set_option maxHeartbeats 4000000 in
set_option maxRecDepth 100000 in
theorem b_X3_giveOneNextLayer {p : Program} {l : Launch} {e : Env} {s : State} {m : MethodId} {args : Array Value} {below : List Frame} {meth : Method} {c : Code} {Q : State → Prop} {A : Nat → Prop} {dC : Nat → ClassId} {dI : Nat → Nat → Nat} {cI cZ cG : ClassId} (hx : p.tables.exec = Jvm.exec) (hb : c.code = cX3_giveOneNextLayer) (hml : c.maxLocals = 4) (hown : s.vm.findClass RX3 = some m.cls) (hts : ∀ w ∈ wsX3_giveOneNextLayer, w.before args s = true) (hK : va_K (dC, dI) vwCl [(cI, .int), (cZ, .boolean), (cG, .array .int)] s) (hA : ∀ q : Nat, s.heap.size ≤ q → A q) (g0 : Nat) (g1 : Nat) (rs : Nat) (t0 : Nat) (t1 : Nat) (t2 : Nat) (t3 : Nat) (t4 : Nat) (t5 : Nat) (u0 : Nat) (li : Nat) (v0 : Nat) (v1 : Nat) (gi : Nat → Nat) (se : Nat → Nat) (vwr : Nat → Nat) (vw : List Nat) (hr : lrep vwr vw) (hgi : ∀ k, k < 6 → gi k ≤ 3) (hse : ∀ k, se k ≤ 100) (hrs : rs ≤ 2000)  {H : Heap} {locs : List Loc} {ls : Array Slot} (hP : va_P (dC, dI) vwCl [(g0, .inr (3, [.ref g1, .int (nI rs)])), (g1, .inl (cI, 6, .inl (cN gi))), (t0, .inr (4, [.ref t1, .ref t2, .ref t3, .ref t4, .ref u0, .int (nI li), .ref t5])), (t2, .inl (cI, 6, .inl (cN se))), (v0, .inr (1, [.ref v1, .int (nI vw.length)])), (v1, .inl (cI, 6, .inl (cN vwr)))] H) (hD : va_D A [(g0, .inr (3, [.ref g1, .int (nI rs)])), (g1, .inl (cI, 6, .inl (cN gi))), (t0, .inr (4, [.ref t1, .ref t2, .ref t3, .ref t4, .ref u0, .int (nI li), .ref t5])), (t2, .inl (cI, 6, .inl (cN se))), (v0, .inr (1, [.ref v1, .int (nI vw.length)])), (v1, .inl (cI, 6, .inl (cN vwr)))]) (hS : va_S A s.heap H locs) (hl : lv_has ls 4 [(0, .ref g0), (1, .ref v0), (2, .ref t0)]) (kret : ∀ (pcr : Nat) (H : Heap) (locs : List Loc) (ls : Array Slot) , decode cX3_giveOneNextLayer pcr = .ok (.ireturn, 1) → va_P (dC, dI) vwCl [(g0, .inr (3, [.ref g1, .int (nI (oneR2 se gi rs vw))])), (g1, .inl (cI, 6, .inl (cN (oneG2 se gi rs vw)))), (t0, .inr (4, [.ref t1, .ref t2, .ref t3, .ref t4, .ref u0, .int (nI li), .ref t5])), (t2, .inl (cI, 6, .inl (cN se))), (v0, .inr (1, [.ref v1, .int (nI vw.length)])), (v1, .inl (cI, 6, .inl (cN vwr)))] H → va_D A [(g0, .inr (3, [.ref g1, .int (nI (oneR2 se gi rs vw))])), (g1, .inl (cI, 6, .inl (cN (oneG2 se gi rs vw)))), (t0, .inr (4, [.ref t1, .ref t2, .ref t3, .ref t4, .ref u0, .int (nI li), .ref t5])), (t2, .inl (cI, 6, .inl (cN se))), (v0, .inr (1, [.ref v1, .int (nI vw.length)])), (v1, .inl (cI, 6, .inl (cN vwr)))] → va_S A s.heap H locs → W p l e ({ frames := 1, cells := 0, slots := 0, locals := 22 } : Room) s m args below meth c H locs 0 0 Q (F0 m pcr ls [.int (bI ((f2F se gi rs vw).isSome))])) : W p l e ({ frames := 1, cells := 0, slots := 0, locals := 22 } : Room) s m args below meth c H locs 0 0 Q (F0 m 0 ls []) := by
  refine lv_iconst (v := nI 0) hx hb dX3_giveOneNextLayer_0 (by decide) ?_
  refine lv_istore_n (lv' := [(3, .int (nI 0)), (0, .ref g0), (1, .ref v0), (2, .ref t0)]) hx hb dX3_giveOneNextLayer_1 rfl hl (by decide) rfl (fun ls hl => ?_)
  have L2 : ∀ (n : Nat) (i : Nat) (H : Heap) (locs : List Loc) (ls : Array Slot), (i ≤ vw.length) → (∀ j, j < i → b2F se gi rs (vw.getD j 0) = false) → (vw.length - i < n) → va_P (dC, dI) vwCl [(g0, .inr (3, [.ref g1, .int (nI rs)])), (g1, .inl (cI, 6, .inl (cN gi))), (t0, .inr (4, [.ref t1, .ref t2, .ref t3, .ref t4, .ref u0, .int (nI li), .ref t5])), (t2, .inl (cI, 6, .inl (cN se))), (v0, .inr (1, [.ref v1, .int (nI vw.length)])), (v1, .inl (cI, 6, .inl (cN vwr)))] H → va_D A [(g0, .inr (3, [.ref g1, .int (nI rs)])), (g1, .inl (cI, 6, .inl (cN gi))), (t0, .inr (4, [.ref t1, .ref t2, .ref t3, .ref t4, .ref u0, .int (nI li), .ref t5])), (t2, .inl (cI, 6, .inl (cN se))), (v0, .inr (1, [.ref v1, .int (nI vw.length)])), (v1, .inl (cI, 6, .inl (cN vwr)))] → va_S A s.heap H locs → lv_has ls 4 [(0, .ref g0), (1, .ref v0), (2, .ref t0), (3, .int (nI i))] → W p l e ({ frames := 1, cells := 0, slots := 0, locals := 22 } : Room) s m args below meth c H locs 0 0 Q (F0 m 2 ls []) := by
    intro n
    induction n with
    | zero =>
      intro i H locs ls hi hh hm
      exact absurd hm (Nat.not_lt_zero _)
    | succ n ih2 =>
      intro i H locs ls hi hh hm hP hD hS hl
      refine lv_iload_n hx hb dX3_giveOneNextLayer_2 rfl (lv_at hl 3 rfl) ?_
      refine lv_aload_n hx hb dX3_giveOneNextLayer_3 rfl (lv_at hl 1 rfl) ?_
      refine va_get (D := (dC, dI)) (ci := 1) (v := .int (nI vw.length)) (C := RX1) (T := TX1) (N := 2) hx hb hts (wX3_giveOneNextLayer_X1_u) hown hK hP 4 rfl rfl 1 (by decide) (hts (.fieldLink RX3 23 "Confroom$Line" "count" "I") (wX3_giveOneNextLayer_f23)) (fun _ h9 => h9) rfl dX3_giveOneNextLayer_4 ?_
      have hlen := hr.len
      refine q_ge (tgt := 32) hx hb (a := i) (b := vw.length) (by omega) (by omega) dX3_giveOneNextLayer_7 (by decide) (fun c7 => ?_) (fun c7 => ?_)
      · have hf : f2F se gi rs vw = none := find_no vw (fun j hj => hh j (by omega))
        refine lv_iconst (v := nI 0) hx hb dX3_giveOneNextLayer_32 (by decide) ?_
        have ec1 : oneR2 se gi rs vw = rs := by
          exact (one2_n hf).2
        have ec2 : oneG2 se gi rs vw = gi := by
          exact (one2_n hf).1
        have hP : va_P (dC, dI) vwCl [(g0, .inr (3, [.ref g1, .int (nI (oneR2 se gi rs vw))])), (g1, .inl (cI, 6, .inl (cN (oneG2 se gi rs vw)))), (t0, .inr (4, [.ref t1, .ref t2, .ref t3, .ref t4, .ref u0, .int (nI li), .ref t5])), (t2, .inl (cI, 6, .inl (cN se))), (v0, .inr (1, [.ref v1, .int (nI vw.length)])), (v1, .inl (cI, 6, .inl (cN vwr)))] H := by
          rw [ec1, ec2]
          exact hP
        have hD : va_D A [(g0, .inr (3, [.ref g1, .int (nI (oneR2 se gi rs vw))])), (g1, .inl (cI, 6, .inl (cN (oneG2 se gi rs vw)))), (t0, .inr (4, [.ref t1, .ref t2, .ref t3, .ref t4, .ref u0, .int (nI li), .ref t5])), (t2, .inl (cI, 6, .inl (cN se))), (v0, .inr (1, [.ref v1, .int (nI vw.length)])), (v1, .inl (cI, 6, .inl (cN vwr)))] := by
          rw [ec1, ec2]
          exact hD
        have ev3 : bI false = bI ((f2F se gi rs vw).isSome) := by rw [hf]; rfl
        refine q_as ((show nI 0 = bI false from rfl).trans ev3) ?_
        refine kret 33 _ _ _   dX3_giveOneNextLayer_33 hP hD hS
      · refine lv_aload_n hx hb dX3_giveOneNextLayer_10 rfl (lv_at hl 0 rfl) ?_
        refine lv_aload_n hx hb dX3_giveOneNextLayer_11 rfl (lv_at hl 1 rfl) ?_
        refine va_get (D := (dC, dI)) (ci := 1) (v := .ref v1) (C := RX1) (T := TX1) (N := 2) hx hb hts (wX3_giveOneNextLayer_X1_u) hown hK hP 4 rfl rfl 0 (by decide) (hts (.fieldLink RX3 28 "Confroom$Line" "row" "[I") (wX3_giveOneNextLayer_f28)) (fun _ h9 => h9) rfl dX3_giveOneNextLayer_12 ?_
        refine lv_iload_n hx hb dX3_giveOneNextLayer_15 rfl (lv_at hl 3 rfl) ?_
        refine q_iN hx hb hK hP 5 0 rfl rfl (k := i) (by omega) (by decide) dX3_giveOneNextLayer_16 ?_
        have hrl := hr.lt c7
        refine lv_aload_n hx hb dX3_giveOneNextLayer_17 rfl (lv_at hl 2 rfl) ?_
        have hPc := hP.sub (ws' := [(g0, .inr (3, [.ref g1, .int (nI rs)])), (g1, .inl (cI, 6, .inl (cN gi))), (t0, .inr (4, [.ref t1, .ref t2, .ref t3, .ref t4, .ref u0, .int (nI li), .ref t5])), (t2, .inl (cI, 6, .inl (cN se)))]) [0, 1, 2, 3] rfl
        have hDc := hD.sub (ws' := [(g0, .inr (3, [.ref g1, .int (nI rs)])), (g1, .inl (cI, 6, .inl (cN gi))), (t0, .inr (4, [.ref t1, .ref t2, .ref t3, .ref t4, .ref u0, .int (nI li), .ref t5])), (t2, .inl (cI, 6, .inl (cN se)))]) [0, 1, 2, 3] (by decide) rfl
        have hFc := va_free (wc := [(g0, .inr (3, [.ref g1, .int (nI rs)])), (g1, .inl (cI, 6, .inl (cN gi))), (t0, .inr (4, [.ref t1, .ref t2, .ref t3, .ref t4, .ref u0, .int (nI li), .ref t5])), (t2, .inl (cI, 6, .inl (cN se)))]) hD hS hA [0, 1, 2, 3] rfl
        have hq4_0 : (vwr i) < 6 := by
          first | assumption | omega
        have hq4_1 : ∀ k, k < 6 → gi k ≤ 3 := by
          first | assumption | omega
        have hq4_2 : ∀ k, se k ≤ 100 := by
          first | assumption | omega
        have hq4_3 : rs ≤ 2000 := by
          first | assumption | omega
        refine va_calli (va_runV (As := [.int (nI (vwr i)), .ref t0]) (rest := []) ⟨hx, hb, hml, hown, hts⟩ (c_X3_giveNextLayer l dC dI cI cZ cG g0 g1 rs t0 t1 t2 t3 t4 t5 u0 li gi se (vwr i) H.size hq4_0 hq4_1 hq4_2 hq4_3) (cwV 2 hts gX3_giveOneNextLayer_X3_giveNextLayer rfl rfl rfl (by decide +kernel) ⟨Nat.le_of_ble_eq_true rfl, Nat.le_of_ble_eq_true rfl⟩) ⟨fun a U g mk q => q_blind q, va_recv hK hPc (ci := 3) (q0 := 0) rfl rfl, fun U hU hW => ⟨rfl, by rw [hU], by rw [hU]; exact hPc, va_K.moved hW.alike hK, hDc.weaken (fun _ _ _ _ => trivial)⟩⟩ rfl rfl hl.1 rfl (lv_room (Nat.le_of_ble_eq_true rfl)) dX3_giveOneNextLayer_18 ⟨by decide, by decide⟩) hS (fun q _ h => hFc q h) hFc (fun rv u t H1 locs ht hvm hw hB hz1 hk1 hS => ?_)
        obtain ⟨  hr4, hP1, hD1⟩ := hB
        rw [ht] at hP1
        subst hw
        subst hr4
        obtain ⟨hP, hD⟩ := va_join (wr := [(v0, .inr (1, [.ref v1, .int (nI vw.length)])), (v1, .inl (cI, 6, .inl (cN vwr)))]) (w1 := [(g0, .inr (3, [.ref g1, .int (nI (r2F se gi rs (vwr i)))])), (g1, .inl (cI, 6, .inl (cN (g2F se gi rs (vwr i))))), (t0, .inr (4, [.ref t1, .ref t2, .ref t3, .ref t4, .ref u0, .int (nI li), .ref t5])), (t2, .inl (cI, 6, .inl (cN se)))]) hP hD [0, 1, 2, 3] [4, 5] rfl rfl (by decide) (by decide) hk1 hFc hP1 hD1
        generalize H1 = H at hP hS ⊢
        have hP := hP.sub (ws' := [(g0, .inr (3, [.ref g1, .int (nI (r2F se gi rs (vwr i)))])), (g1, .inl (cI, 6, .inl (cN (g2F se gi rs (vwr i))))), (t0, .inr (4, [.ref t1, .ref t2, .ref t3, .ref t4, .ref u0, .int (nI li), .ref t5])), (t2, .inl (cI, 6, .inl (cN se))), (v0, .inr (1, [.ref v1, .int (nI vw.length)])), (v1, .inl (cI, 6, .inl (cN vwr)))]) [2, 3, 4, 5, 0, 1] rfl
        have hD := hD.sub (ws' := [(g0, .inr (3, [.ref g1, .int (nI (r2F se gi rs (vwr i)))])), (g1, .inl (cI, 6, .inl (cN (g2F se gi rs (vwr i))))), (t0, .inr (4, [.ref t1, .ref t2, .ref t3, .ref t4, .ref u0, .int (nI li), .ref t5])), (t2, .inl (cI, 6, .inl (cN se))), (v0, .inr (1, [.ref v1, .int (nI vw.length)])), (v1, .inl (cI, 6, .inl (cN vwr)))]) [2, 3, 4, 5, 0, 1] (by decide) rfl
        refine q_zeq (tgt := 26) hx hb (b := (b2F se gi rs (vwr i))) dX3_giveOneNextLayer_21 (by decide) (fun c21 => ?_) (fun c21 => ?_)
        · have ef5 : g2F se gi rs (vwr i) = gi := by
            exact g2_n c21
          have ef6 : r2F se gi rs (vwr i) = rs := by
            exact r2_n c21
          rw [ef5, ef6] at hP hD
          refine lv_iinc (v := nI (i + 1)) (lv' := [(3, .int (nI (i + 1))), (0, .ref g0), (1, .ref v0), (2, .ref t0)]) hx hb dX3_giveOneNextLayer_26 hl (k := 3) rfl (q_inc i 1) (by decide) rfl (fun ls hl => ?_)
          refine lv_goto (tgt := 2) hx hb dX3_giveOneNextLayer_29 (by decide) ?_
          refine ih2 (i + 1) _ _ _ ?_ ?_ (by omega) hP hD hS (lv_sub hl [1, 2, 3, 0] rfl)
          · omega
          · intro j hj
            by_cases e9 : j = i
            · rw [e9, ← hr.2 i c7]; exact c21
            · exact hh j (by omega)
        · rw [hr.2 i c7] at c21
          have hf := find_at (q := fun o => b2F se gi rs o) vw i c7 hh c21
          refine lv_iconst (v := nI 1) hx hb dX3_giveOneNextLayer_24 (by decide) ?_
          have ec7 : oneR2 se gi rs vw = r2F se gi rs (vwr i) := by
            rw [hr.2 i c7]; exact (one2_y hf).2
          have ec8 : oneG2 se gi rs vw = g2F se gi rs (vwr i) := by
            rw [hr.2 i c7]; exact (one2_y hf).1
          have hP : va_P (dC, dI) vwCl [(g0, .inr (3, [.ref g1, .int (nI (oneR2 se gi rs vw))])), (g1, .inl (cI, 6, .inl (cN (oneG2 se gi rs vw)))), (t0, .inr (4, [.ref t1, .ref t2, .ref t3, .ref t4, .ref u0, .int (nI li), .ref t5])), (t2, .inl (cI, 6, .inl (cN se))), (v0, .inr (1, [.ref v1, .int (nI vw.length)])), (v1, .inl (cI, 6, .inl (cN vwr)))] H := by
            rw [ec7, ec8]
            exact hP
          have hD : va_D A [(g0, .inr (3, [.ref g1, .int (nI (oneR2 se gi rs vw))])), (g1, .inl (cI, 6, .inl (cN (oneG2 se gi rs vw)))), (t0, .inr (4, [.ref t1, .ref t2, .ref t3, .ref t4, .ref u0, .int (nI li), .ref t5])), (t2, .inl (cI, 6, .inl (cN se))), (v0, .inr (1, [.ref v1, .int (nI vw.length)])), (v1, .inl (cI, 6, .inl (cN vwr)))] := by
            rw [ec7, ec8]
            exact hD
          have ev9 : bI true = bI ((f2F se gi rs vw).isSome) := by rw [show f2F se gi rs vw = _ from hf]; rfl
          refine q_as ((show nI 1 = bI true from rfl).trans ev9) ?_
          refine kret 25 _ _ _   dX3_giveOneNextLayer_25 hP hD hS
  refine L2 _ 0 _ _ _ ?_ ?_ (Nat.lt_succ_self _) hP hD hS (lv_sub hl [1, 2, 3, 0] rfl)
  · omega
  · intro j hj; exact absurd hj (Nat.not_lt_zero _)

set_option maxHeartbeats 4000000 in
set_option maxRecDepth 100000 in
theorem c_X3_giveOneNextLayer (l : Launch) (dC : Nat → ClassId) (dI : Nat → Nat → Nat) (cI cZ cG : ClassId) (g0 : Nat) (g1 : Nat) (rs : Nat) (t0 : Nat) (t1 : Nat) (t2 : Nat) (t3 : Nat) (t4 : Nat) (t5 : Nat) (u0 : Nat) (li : Nat) (v0 : Nat) (v1 : Nat) (gi : Nat → Nat) (se : Nat → Nat) (vwr : Nat → Nat) (vw : List Nat) (sz : Nat) (hr : lrep vwr vw) (hgi : ∀ k, k < 6 → gi k ≤ 3) (hse : ∀ k, se k ≤ 100) (hrs : rs ≤ 2000) : Met l yX3_giveOneNextLayer wsX3_giveOneNextLayer ({ frames := 1, cells := 0, slots := 0, locals := 22 } : Room) (va_Pc [.ref g0, .ref v0, .ref t0] (fun U => U.heap.size = sz ∧ va_P (dC, dI) vwCl [(g0, .inr (3, [.ref g1, .int (nI rs)])), (g1, .inl (cI, 6, .inl (cN gi))), (t0, .inr (4, [.ref t1, .ref t2, .ref t3, .ref t4, .ref u0, .int (nI li), .ref t5])), (t2, .inl (cI, 6, .inl (cN se))), (v0, .inr (1, [.ref v1, .int (nI vw.length)])), (v1, .inl (cI, 6, .inl (cN vwr)))] U.heap ∧ va_K (dC, dI) vwCl [(cI, .int), (cZ, .boolean), (cG, .array .int)] U ∧ va_D (fun _ => True) [(g0, .inr (3, [.ref g1, .int (nI rs)])), (g1, .inl (cI, 6, .inl (cN gi))), (t0, .inr (4, [.ref t1, .ref t2, .ref t3, .ref t4, .ref u0, .int (nI li), .ref t5])), (t2, .inl (cI, 6, .inl (cN se))), (v0, .inr (1, [.ref v1, .int (nI vw.length)])), (v1, .inl (cI, 6, .inl (cN vwr)))])) (va_Qi (fun (r u : Int32) => r = u) (fun (u : Int32) t => u = bI ((f2F se gi rs vw).isSome) ∧ va_P (dC, dI) vwCl [(g0, .inr (3, [.ref g1, .int (nI (oneR2 se gi rs vw))])), (g1, .inl (cI, 6, .inl (cN (oneG2 se gi rs vw)))), (t0, .inr (4, [.ref t1, .ref t2, .ref t3, .ref t4, .ref u0, .int (nI li), .ref t5])), (t2, .inl (cI, 6, .inl (cN se))), (v0, .inr (1, [.ref v1, .int (nI vw.length)])), (v1, .inl (cI, 6, .inl (cN vwr)))] t.heap ∧ va_D (va_A [(g0, .inr (3, [.ref g1, .int (nI rs)])), (g1, .inl (cI, 6, .inl (cN gi))), (t0, .inr (4, [.ref t1, .ref t2, .ref t3, .ref t4, .ref u0, .int (nI li), .ref t5])), (t2, .inl (cI, 6, .inl (cN se))), (v0, .inr (1, [.ref v1, .int (nI vw.length)])), (v1, .inl (cI, 6, .inl (cN vwr)))] sz) [(g0, .inr (3, [.ref g1, .int (nI (oneR2 se gi rs vw))])), (g1, .inl (cI, 6, .inl (cN (oneG2 se gi rs vw)))), (t0, .inr (4, [.ref t1, .ref t2, .ref t3, .ref t4, .ref u0, .int (nI li), .ref t5])), (t2, .inl (cI, 6, .inl (cN se))), (v0, .inr (1, [.ref v1, .int (nI vw.length)])), (v1, .inl (cI, 6, .inl (cN vwr)))]) (va_A [(g0, .inr (3, [.ref g1, .int (nI rs)])), (g1, .inl (cI, 6, .inl (cN gi))), (t0, .inr (4, [.ref t1, .ref t2, .ref t3, .ref t4, .ref u0, .int (nI li), .ref t5])), (t2, .inl (cI, 6, .inl (cN se))), (v0, .inr (1, [.ref v1, .int (nI vw.length)])), (v1, .inl (cI, 6, .inl (cN vwr)))] sz)) 0 0 (va_A [(g0, .inr (3, [.ref g1, .int (nI rs)])), (g1, .inl (cI, 6, .inl (cN gi))), (t0, .inr (4, [.ref t1, .ref t2, .ref t3, .ref t4, .ref u0, .int (nI li), .ref t5])), (t2, .inl (cI, 6, .inl (cN se))), (v0, .inr (1, [.ref v1, .int (nI vw.length)])), (v1, .inl (cI, 6, .inl (cN vwr)))] sz) := by
  refine Met.ofW (cc := cX3_giveOneNextLayer) (maxL := 4) (ret := (some .boolean)) (by decide) rfl ?_
  intro p e s m args below meth c s₁ B hml hv
  obtain ⟨rfl, hsz, hP, hK, hD0⟩ := hv
  have hts := atoms_spec (ws := wsX3_giveOneNextLayer) B.pre
  have hown : s.vm.findClass RX3 = some m.cls := findClass_of_methodNamed B.named
  have hlocks := B.notSynchronized
  subst hsz
  have hD := hD0.self (sz := s.heap.size)
  have hA : ∀ q : Nat, s.heap.size ≤ q → va_A [(g0, .inr (3, [.ref g1, .int (nI rs)])), (g1, .inl (cI, 6, .inl (cN gi))), (t0, .inr (4, [.ref t1, .ref t2, .ref t3, .ref t4, .ref u0, .int (nI li), .ref t5])), (t2, .inl (cI, 6, .inl (cN se))), (v0, .inr (1, [.ref v1, .int (nI vw.length)])), (v1, .inl (cI, 6, .inl (cN vwr)))] s.heap.size q := fun q h => Or.inr h
  have hl := lv_entry ([.ref g0, .ref v0, .ref t0]) (n := 4) (Nat.le_of_ble_eq_true rfl)
  rw [lg_entry_eq]
  generalize (lg_sl ([.ref g0, .ref v0, .ref t0]) ++ List.replicate (4 - (lg_sl ([.ref g0, .ref v0, .ref t0])).length) Slot.unset).toArray = ls at hl ⊢
  have hl : lv_has ls 4 [(0, .ref g0), (1, .ref v0), (2, .ref t0)] := hl
  have hx := B.exec
  have hb := B.bytes
  exact b_X3_giveOneNextLayer hx hb hml hown hts hK hA g0 g1 rs t0 t1 t2 t3 t4 t5 u0 li v0 v1 gi se vwr vw hr hgi hse hrs  hP hD va_S.rf hl (fun pcr H locs ls   hd hP hD hS => W.zret hx hb B.returns (q_nz _) (fun t ht hW => ⟨⟨_, _, rfl, rfl, rfl, by rw [ht]; exact hP, hD⟩, hS.F ht⟩) hS.2.2 hd)
