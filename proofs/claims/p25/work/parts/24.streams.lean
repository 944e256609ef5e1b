theorem wX4_begin_f15 : Cond.fieldLink RX4 15 "Confroom$Streams" "step" "[I" ∈ wsX4_begin := by decide +kernel
theorem wX4_begin_f28 : Cond.fieldLink RX4 28 "Confroom$Streams" "published" "LConfroom$Line;" ∈ wsX4_begin := by decide +kernel
theorem wX4_begin_f9 : Cond.fieldLink RX4 9 "Confroom$Streams" "base" "[I" ∈ wsX4_begin := by decide +kernel
theorem wX4_begin_X4_u : ∀ w ∈ u_ws RX4 TX4 7, w ∈ wsX4_begin := by decide +kernel
set_option maxHeartbeats 4000000 in
set_option maxRecDepth 100000 in
theorem b_X4_begin {p : Program} {l : Launch} {e : Env} {s : State} {m : MethodId} {args : Array Value} {below : List Frame} {meth : Method} {c : Code} {Q : State → Prop} {A : Nat → Prop} {dC : Nat → ClassId} {dI : Nat → Nat → Nat} {cI cZ cG : ClassId} (hx : p.tables.exec = Jvm.exec) (hb : c.code = cX4_begin) (hml : c.maxLocals = 4) (hown : s.vm.findClass RX4 = some m.cls) (hts : ∀ w ∈ wsX4_begin, w.before args s = true) (hK : va_K (dC, dI) vwCl [(cI, .int), (cZ, .boolean), (cG, .array .int)] s) (hA : ∀ q : Nat, s.heap.size ≤ q → A q) (t0 : Nat) (t1 : Nat) (t2 : Nat) (t3 : Nat) (t4 : Nat) (t5 : Nat) (u0 : Nat) (li : Nat) (u1 : Nat) (ba : Nat → Nat) (se : Nat → Nat) (pur : Nat → Nat) (pu : List Nat) (pe : Nat) (b1 : Nat) (b2 : Nat) (hp : pe < 6) (hr : lrep pur pu)  {H : Heap} {locs : List Loc} {ls : Array Slot} (hP : va_P (dC, dI) vwCl [(t0, .inr (4, [.ref t1, .ref t2, .ref t3, .ref t4, .ref u0, .int (nI li), .ref t5])), (t1, .inl (cI, 6, .inl (cN ba))), (t2, .inl (cI, 6, .inl (cN se))), (u0, .inr (1, [.ref u1, .int (nI pu.length)])), (u1, .inl (cI, 6, .inl (cN pur)))] H) (hD : va_D A [(t0, .inr (4, [.ref t1, .ref t2, .ref t3, .ref t4, .ref u0, .int (nI li), .ref t5])), (t1, .inl (cI, 6, .inl (cN ba))), (t2, .inl (cI, 6, .inl (cN se))), (u0, .inr (1, [.ref u1, .int (nI pu.length)])), (u1, .inl (cI, 6, .inl (cN pur)))]) (hS : va_S A s.heap H locs) (hl : lv_has ls 4 [(0, .ref t0), (1, .int (nI pe)), (2, .int (nI b1)), (3, .int (nI b2))]) (kret : ∀ (pcr : Nat) (H : Heap) (locs : List Loc) (ls : Array Slot) (pur2 : Nat → Nat), (lrep pur2 (putL pu pe)) → decode cX4_begin pcr = .ok (.return_, 1) → va_P (dC, dI) vwCl [(t0, .inr (4, [.ref t1, .ref t2, .ref t3, .ref t4, .ref u0, .int (nI li), .ref t5])), (t1, .inl (cI, 6, .inl (cN (va_up ba pe b1)))), (t2, .inl (cI, 6, .inl (cN (va_up se pe b2)))), (u0, .inr (1, [.ref u1, .int (nI ((putL pu pe).length))])), (u1, .inl (cI, 6, .inl (cN pur2)))] H → va_D A [(t0, .inr (4, [.ref t1, .ref t2, .ref t3, .ref t4, .ref u0, .int (nI li), .ref t5])), (t1, .inl (cI, 6, .inl (cN (va_up ba pe b1)))), (t2, .inl (cI, 6, .inl (cN (va_up se pe b2)))), (u0, .inr (1, [.ref u1, .int (nI ((putL pu pe).length))])), (u1, .inl (cI, 6, .inl (cN pur2)))] → va_S A s.heap H locs → W p l e ({ frames := 2, cells := 0, slots := 0, locals := 43 } : Room) s m args below meth c H locs 0 0 Q (F0 m pcr ls [])) : W p l e ({ frames := 2, cells := 0, slots := 0, locals := 43 } : Room) s m args below meth c H locs 0 0 Q (F0 m 0 ls []) := by
  refine lv_aload_n hx hb dX4_begin_0 rfl (lv_at hl 0 rfl) ?_
  refine va_get (D := (dC, dI)) (ci := 4) (v := .ref t1) (C := RX4) (T := TX4) (N := 7) hx hb hts (wX4_begin_X4_u) hown hK hP 0 rfl rfl 0 (by decide) (hts (.fieldLink RX4 9 "Confroom$Streams" "base" "[I") (wX4_begin_f9)) (fun _ h9 => h9) rfl dX4_begin_1 ?_
  refine lv_iload_n hx hb dX4_begin_4 rfl (lv_at hl 1 rfl) ?_
  refine lv_iload_n hx hb dX4_begin_5 rfl (lv_at hl 2 rfl) ?_
  refine q_sN hx hb hK hP hD hS 1 0 rfl rfl (k := pe) (x := b1) (by omega) (by decide) dX4_begin_6 (fun H locs hP hD hS => ?_)
  have hP : va_P (dC, dI) vwCl [(t0, .inr (4, [.ref t1, .ref t2, .ref t3, .ref t4, .ref u0, .int (nI li), .ref t5])), (t1, .inl (cI, 6, .inl (cN (va_up ba pe b1)))), (t2, .inl (cI, 6, .inl (cN se))), (u0, .inr (1, [.ref u1, .int (nI pu.length)])), (u1, .inl (cI, 6, .inl (cN pur)))] H := hP
  have hD : va_D A [(t0, .inr (4, [.ref t1, .ref t2, .ref t3, .ref t4, .ref u0, .int (nI li), .ref t5])), (t1, .inl (cI, 6, .inl (cN (va_up ba pe b1)))), (t2, .inl (cI, 6, .inl (cN se))), (u0, .inr (1, [.ref u1, .int (nI pu.length)])), (u1, .inl (cI, 6, .inl (cN pur)))] := hD
  refine lv_aload_n hx hb dX4_begin_7 rfl (lv_at hl 0 rfl) ?_
  refine va_get (D := (dC, dI)) (ci := 4) (v := .ref t2) (C := RX4) (T := TX4) (N := 7) hx hb hts (wX4_begin_X4_u) hown hK hP 0 rfl rfl 1 (by decide) (hts (.fieldLink RX4 15 "Confroom$Streams" "step" "[I") (wX4_begin_f15)) (fun _ h9 => h9) rfl dX4_begin_8 ?_
  refine lv_iload_n hx hb dX4_begin_11 rfl (lv_at hl 1 rfl) ?_
  refine lv_iload_n hx hb dX4_begin_12 rfl (lv_at hl 3 rfl) ?_
  refine q_sN hx hb hK hP hD hS 2 0 rfl rfl (k := pe) (x := b2) (by omega) (by decide) dX4_begin_13 (fun H locs hP hD hS => ?_)
  have hP : va_P (dC, dI) vwCl [(t0, .inr (4, [.ref t1, .ref t2, .ref t3, .ref t4, .ref u0, .int (nI li), .ref t5])), (t1, .inl (cI, 6, .inl (cN (va_up ba pe b1)))), (t2, .inl (cI, 6, .inl (cN (va_up se pe b2)))), (u0, .inr (1, [.ref u1, .int (nI pu.length)])), (u1, .inl (cI, 6, .inl (cN pur)))] H := hP
  have hD : va_D A [(t0, .inr (4, [.ref t1, .ref t2, .ref t3, .ref t4, .ref u0, .int (nI li), .ref t5])), (t1, .inl (cI, 6, .inl (cN (va_up ba pe b1)))), (t2, .inl (cI, 6, .inl (cN (va_up se pe b2)))), (u0, .inr (1, [.ref u1, .int (nI pu.length)])), (u1, .inl (cI, 6, .inl (cN pur)))] := hD
  refine lv_aload_n hx hb dX4_begin_14 rfl (lv_at hl 0 rfl) ?_
  refine va_get (D := (dC, dI)) (ci := 4) (v := .ref u0) (C := RX4) (T := TX4) (N := 7) hx hb hts (wX4_begin_X4_u) hown hK hP 0 rfl rfl 4 (by decide) (hts (.fieldLink RX4 28 "Confroom$Streams" "published" "LConfroom$Line;") (wX4_begin_f28)) (fun _ h9 => h9) rfl dX4_begin_15 ?_
  refine lv_iload_n hx hb dX4_begin_18 rfl (lv_at hl 1 rfl) ?_
  have hPc := hP.sub (ws' := [(u0, .inr (1, [.ref u1, .int (nI pu.length)])), (u1, .inl (cI, 6, .inl (cN pur)))]) [3, 4] rfl
  have hDc := hD.sub (ws' := [(u0, .inr (1, [.ref u1, .int (nI pu.length)])), (u1, .inl (cI, 6, .inl (cN pur)))]) [3, 4] (by decide) rfl
  have hFc := va_free (wc := [(u0, .inr (1, [.ref u1, .int (nI pu.length)])), (u1, .inl (cI, 6, .inl (cN pur)))]) hD hS hA [3, 4] rfl
  have hq1_0 : lrep pur pu := by
    first | assumption | omega
  have hq1_1 : pe < 6 := by
    first | assumption | omega
  refine va_callv (va_runV (As := [.int (nI pe)]) (rest := []) ⟨hx, hb, hml, hown, hts⟩ (c_X1_putLast l dC dI cI cZ cG u0 u1 pur pu pe H.size hq1_0 hq1_1) (cwV 1 hts gX4_begin_X1_putLast rfl rfl rfl (by decide +kernel) ⟨Nat.le_of_ble_eq_true rfl, Nat.le_of_ble_eq_true rfl⟩) ⟨fun a U g mk q => q_blind q, va_recv hK hPc (ci := 1) (q0 := 0) rfl rfl, fun U hU hW => ⟨rfl, by rw [hU], by rw [hU]; exact hPc, va_K.moved hW.alike hK, hDc.weaken (fun _ _ _ _ => trivial)⟩⟩ rfl rfl hl.1 rfl (lv_room (Nat.le_of_ble_eq_true rfl)) dX4_begin_19 ⟨by decide, by decide⟩) hS (fun q _ h => hFc q h) hFc (fun u t H1 locs ht hvm hw hB hz1 hk1 hS => ?_)
  obtain ⟨row2_1, hp1_0, hP1, hD1⟩ := hB
  rw [ht] at hP1
  obtain ⟨hP, hD⟩ := va_join (wr := [(t0, .inr (4, [.ref t1, .ref t2, .ref t3, .ref t4, .ref u0, .int (nI li), .ref t5])), (t1, .inl (cI, 6, .inl (cN (va_up ba pe b1)))), (t2, .inl (cI, 6, .inl (cN (va_up se pe b2))))]) (w1 := [(u0, .inr (1, [.ref u1, .int (nI ((putL pu pe).length))])), (u1, .inl (cI, 6, .inl (cN row2_1)))]) hP hD [3, 4] [0, 1, 2] rfl rfl (by decide) (by decide) hk1 hFc hP1 hD1
  generalize H1 = H at hP hS ⊢
  have hP := hP.sub (ws' := [(t0, .inr (4, [.ref t1, .ref t2, .ref t3, .ref t4, .ref u0, .int (nI li), .ref t5])), (t1, .inl (cI, 6, .inl (cN (va_up ba pe b1)))), (t2, .inl (cI, 6, .inl (cN (va_up se pe b2)))), (u0, .inr (1, [.ref u1, .int (nI ((putL pu pe).length))])), (u1, .inl (cI, 6, .inl (cN row2_1)))]) [0, 1, 2, 3, 4] rfl
  have hD := hD.sub (ws' := [(t0, .inr (4, [.ref t1, .ref t2, .ref t3, .ref t4, .ref u0, .int (nI li), .ref t5])), (t1, .inl (cI, 6, .inl (cN (va_up ba pe b1)))), (t2, .inl (cI, 6, .inl (cN (va_up se pe b2)))), (u0, .inr (1, [.ref u1, .int (nI ((putL pu pe).length))])), (u1, .inl (cI, 6, .inl (cN row2_1)))]) [0, 1, 2, 3, 4] (by decide) rfl
  refine kret 22 _ _ _ row2_1 ?_ dX4_begin_22 hP hD hS
  · first | assumption | omega

set_option maxHeartbeats 4000000 in
set_option maxRecDepth 100000 in
theorem c_X4_begin (l : Launch) (dC : Nat → ClassId) (dI : Nat → Nat → Nat) (cI cZ cG : ClassId) (t0 : Nat) (t1 : Nat) (t2 : Nat) (t3 : Nat) (t4 : Nat) (t5 : Nat) (u0 : Nat) (li : Nat) (u1 : Nat) (ba : Nat → Nat) (se : Nat → Nat) (pur : Nat → Nat) (pu : List Nat) (pe : Nat) (b1 : Nat) (b2 : Nat) (sz : Nat) (hp : pe < 6) (hr : lrep pur pu) : Met l yX4_begin wsX4_begin ({ frames := 2, cells := 0, slots := 0, locals := 43 } : Room) (va_Pc [.ref t0, .int (nI pe), .int (nI b1), .int (nI b2)] (fun U => U.heap.size = sz ∧ va_P (dC, dI) vwCl [(t0, .inr (4, [.ref t1, .ref t2, .ref t3, .ref t4, .ref u0, .int (nI li), .ref t5])), (t1, .inl (cI, 6, .inl (cN ba))), (t2, .inl (cI, 6, .inl (cN se))), (u0, .inr (1, [.ref u1, .int (nI pu.length)])), (u1, .inl (cI, 6, .inl (cN pur)))] U.heap ∧ va_K (dC, dI) vwCl [(cI, .int), (cZ, .boolean), (cG, .array .int)] U ∧ va_D (fun _ => True) [(t0, .inr (4, [.ref t1, .ref t2, .ref t3, .ref t4, .ref u0, .int (nI li), .ref t5])), (t1, .inl (cI, 6, .inl (cN ba))), (t2, .inl (cI, 6, .inl (cN se))), (u0, .inr (1, [.ref u1, .int (nI pu.length)])), (u1, .inl (cI, 6, .inl (cN pur)))])) (va_Qv (fun (_ : Unit) => True) (fun (_ : Unit) t => ∃ (pur2 : Nat → Nat), (lrep pur2 (putL pu pe)) ∧ va_P (dC, dI) vwCl [(t0, .inr (4, [.ref t1, .ref t2, .ref t3, .ref t4, .ref u0, .int (nI li), .ref t5])), (t1, .inl (cI, 6, .inl (cN (va_up ba pe b1)))), (t2, .inl (cI, 6, .inl (cN (va_up se pe b2)))), (u0, .inr (1, [.ref u1, .int (nI ((putL pu pe).length))])), (u1, .inl (cI, 6, .inl (cN pur2)))] t.heap ∧ va_D (va_A [(t0, .inr (4, [.ref t1, .ref t2, .ref t3, .ref t4, .ref u0, .int (nI li), .ref t5])), (t1, .inl (cI, 6, .inl (cN ba))), (t2, .inl (cI, 6, .inl (cN se))), (u0, .inr (1, [.ref u1, .int (nI pu.length)])), (u1, .inl (cI, 6, .inl (cN pur)))] sz) [(t0, .inr (4, [.ref t1, .ref t2, .ref t3, .ref t4, .ref u0, .int (nI li), .ref t5])), (t1, .inl (cI, 6, .inl (cN (va_up ba pe b1)))), (t2, .inl (cI, 6, .inl (cN (va_up se pe b2)))), (u0, .inr (1, [.ref u1, .int (nI ((putL pu pe).length))])), (u1, .inl (cI, 6, .inl (cN pur2)))]) (va_A [(t0, .inr (4, [.ref t1, .ref t2, .ref t3, .ref t4, .ref u0, .int (nI li), .ref t5])), (t1, .inl (cI, 6, .inl (cN ba))), (t2, .inl (cI, 6, .inl (cN se))), (u0, .inr (1, [.ref u1, .int (nI pu.length)])), (u1, .inl (cI, 6, .inl (cN pur)))] sz)) 0 0 (va_A [(t0, .inr (4, [.ref t1, .ref t2, .ref t3, .ref t4, .ref u0, .int (nI li), .ref t5])), (t1, .inl (cI, 6, .inl (cN ba))), (t2, .inl (cI, 6, .inl (cN se))), (u0, .inr (1, [.ref u1, .int (nI pu.length)])), (u1, .inl (cI, 6, .inl (cN pur)))] sz) := by
  refine Met.ofW (cc := cX4_begin) (maxL := 4) (ret := none) (by decide) rfl ?_
  intro p e s m args below meth c s₁ B hml hv
  obtain ⟨rfl, hsz, hP, hK, hD0⟩ := hv
  have hts := atoms_spec (ws := wsX4_begin) B.pre
  have hown : s.vm.findClass RX4 = some m.cls := findClass_of_methodNamed B.named
  have hlocks := B.notSynchronized
  subst hsz
  have hD := hD0.self (sz := s.heap.size)
  have hA : ∀ q : Nat, s.heap.size ≤ q → va_A [(t0, .inr (4, [.ref t1, .ref t2, .ref t3, .ref t4, .ref u0, .int (nI li), .ref t5])), (t1, .inl (cI, 6, .inl (cN ba))), (t2, .inl (cI, 6, .inl (cN se))), (u0, .inr (1, [.ref u1, .int (nI pu.length)])), (u1, .inl (cI, 6, .inl (cN pur)))] s.heap.size q := fun q h => Or.inr h
  have hl := lv_entry ([.ref t0, .int (nI pe), .int (nI b1), .int (nI b2)]) (n := 4) (Nat.le_of_ble_eq_true rfl)
  rw [lg_entry_eq]
  generalize (lg_sl ([.ref t0, .int (nI pe), .int (nI b1), .int (nI b2)]) ++ List.replicate (4 - (lg_sl ([.ref t0, .int (nI pe), .int (nI b1), .int (nI b2)])).length) Slot.unset).toArray = ls at hl ⊢
  have hl : lv_has ls 4 [(0, .ref t0), (1, .int (nI pe)), (2, .int (nI b1)), (3, .int (nI b2))] := hl
  have hx := B.exec
  have hb := B.bytes
  exact b_X4_begin hx hb hml hown hts hK hA t0 t1 t2 t3 t4 t5 u0 li u1 ba se pur pu pe b1 b2 hp hr  hP hD va_S.rf hl (fun pcr H locs ls pur2 hp0 hd hP hD hS => W.vret hx hb B.returns (fun t ht hW => ⟨⟨(), rfl, trivial, pur2, hp0, by rw [ht]; exact hP, hD⟩, hS.F ht⟩) hS.2.2 hd)
theorem wX4_stop_f18 : Cond.fieldLink RX4 18 "Confroom$Streams" "keyCount" "[I" ∈ wsX4_stop := by decide +kernel
theorem wX4_stop_f21 : Cond.fieldLink RX4 21 "Confroom$Streams" "asked" "[Z" ∈ wsX4_stop := by decide +kernel
theorem wX4_stop_f28 : Cond.fieldLink RX4 28 "Confroom$Streams" "published" "LConfroom$Line;" ∈ wsX4_stop := by decide +kernel
theorem wX4_stop_X4_u : ∀ w ∈ u_ws RX4 TX4 7, w ∈ wsX4_stop := by decide +kernel
set_option maxHeartbeats 4000000 in
set_option maxRecDepth 100000 in
theorem b_X4_stop {p : Program} {l : Launch} {e : Env} {s : State} {m : MethodId} {args : Array Value} {below : List Frame} {meth : Method} {c : Code} {Q : State → Prop} {A : Nat → Prop} {dC : Nat → ClassId} {dI : Nat → Nat → Nat} {cI cZ cG : ClassId} (hx : p.tables.exec = Jvm.exec) (hb : c.code = cX4_stop) (hml : c.maxLocals = 2) (hown : s.vm.findClass RX4 = some m.cls) (hts : ∀ w ∈ wsX4_stop, w.before args s = true) (hK : va_K (dC, dI) vwCl [(cI, .int), (cZ, .boolean), (cG, .array .int)] s) (hA : ∀ q : Nat, s.heap.size ≤ q → A q) (t0 : Nat) (t1 : Nat) (t2 : Nat) (t3 : Nat) (t4 : Nat) (t5 : Nat) (u0 : Nat) (li : Nat) (u1 : Nat) (kc : Nat → Nat) (ak : Nat → Bool) (pur : Nat → Nat) (pu : List Nat) (pe : Nat) (hp : pe < 6) (hr : lrep pur pu)  {H : Heap} {locs : List Loc} {ls : Array Slot} (hP : va_P (dC, dI) vwCl [(t0, .inr (4, [.ref t1, .ref t2, .ref t3, .ref t4, .ref u0, .int (nI li), .ref t5])), (t3, .inl (cI, 6, .inl (cN kc))), (t4, .inl (cZ, 6, .inl (cB ak))), (u0, .inr (1, [.ref u1, .int (nI pu.length)])), (u1, .inl (cI, 6, .inl (cN pur)))] H) (hD : va_D A [(t0, .inr (4, [.ref t1, .ref t2, .ref t3, .ref t4, .ref u0, .int (nI li), .ref t5])), (t3, .inl (cI, 6, .inl (cN kc))), (t4, .inl (cZ, 6, .inl (cB ak))), (u0, .inr (1, [.ref u1, .int (nI pu.length)])), (u1, .inl (cI, 6, .inl (cN pur)))]) (hS : va_S A s.heap H locs) (hl : lv_has ls 2 [(0, .ref t0), (1, .int (nI pe))]) (kret : ∀ (pcr : Nat) (H : Heap) (locs : List Loc) (ls : Array Slot) (pur2 : Nat → Nat), (lrep pur2 (dropL pu pe)) → decode cX4_stop pcr = .ok (.return_, 1) → va_P (dC, dI) vwCl [(t0, .inr (4, [.ref t1, .ref t2, .ref t3, .ref t4, .ref u0, .int (nI li), .ref t5])), (t3, .inl (cI, 6, .inl (cN (va_up kc pe 0)))), (t4, .inl (cZ, 6, .inl (cB (va_up ak pe false)))), (u0, .inr (1, [.ref u1, .int (nI ((dropL pu pe).length))])), (u1, .inl (cI, 6, .inl (cN pur2)))] H → va_D A [(t0, .inr (4, [.ref t1, .ref t2, .ref t3, .ref t4, .ref u0, .int (nI li), .ref t5])), (t3, .inl (cI, 6, .inl (cN (va_up kc pe 0)))), (t4, .inl (cZ, 6, .inl (cB (va_up ak pe false)))), (u0, .inr (1, [.ref u1, .int (nI ((dropL pu pe).length))])), (u1, .inl (cI, 6, .inl (cN pur2)))] → va_S A s.heap H locs → W p l e ({ frames := 1, cells := 0, slots := 0, locals := 23 } : Room) s m args below meth c H locs 0 0 Q (F0 m pcr ls [])) : W p l e ({ frames := 1, cells := 0, slots := 0, locals := 23 } : Room) s m args below meth c H locs 0 0 Q (F0 m 0 ls []) := by
  refine lv_aload_n hx hb dX4_stop_0 rfl (lv_at hl 0 rfl) ?_
  refine va_get (D := (dC, dI)) (ci := 4) (v := .ref t3) (C := RX4) (T := TX4) (N := 7) hx hb hts (wX4_stop_X4_u) hown hK hP 0 rfl rfl 2 (by decide) (hts (.fieldLink RX4 18 "Confroom$Streams" "keyCount" "[I") (wX4_stop_f18)) (fun _ h9 => h9) rfl dX4_stop_1 ?_
  refine lv_iload_n hx hb dX4_stop_4 rfl (lv_at hl 1 rfl) ?_
  refine lv_iconst (v := nI 0) hx hb dX4_stop_5 (by decide) ?_
  refine q_sN hx hb hK hP hD hS 1 0 rfl rfl (k := pe) (x := 0) (by omega) (by decide) dX4_stop_6 (fun H locs hP hD hS => ?_)
  have hP : va_P (dC, dI) vwCl [(t0, .inr (4, [.ref t1, .ref t2, .ref t3, .ref t4, .ref u0, .int (nI li), .ref t5])), (t3, .inl (cI, 6, .inl (cN (va_up kc pe 0)))), (t4, .inl (cZ, 6, .inl (cB ak))), (u0, .inr (1, [.ref u1, .int (nI pu.length)])), (u1, .inl (cI, 6, .inl (cN pur)))] H := hP
  have hD : va_D A [(t0, .inr (4, [.ref t1, .ref t2, .ref t3, .ref t4, .ref u0, .int (nI li), .ref t5])), (t3, .inl (cI, 6, .inl (cN (va_up kc pe 0)))), (t4, .inl (cZ, 6, .inl (cB ak))), (u0, .inr (1, [.ref u1, .int (nI pu.length)])), (u1, .inl (cI, 6, .inl (cN pur)))] := hD
  refine lv_aload_n hx hb dX4_stop_7 rfl (lv_at hl 0 rfl) ?_
  refine va_get (D := (dC, dI)) (ci := 4) (v := .ref t4) (C := RX4) (T := TX4) (N := 7) hx hb hts (wX4_stop_X4_u) hown hK hP 0 rfl rfl 3 (by decide) (hts (.fieldLink RX4 21 "Confroom$Streams" "asked" "[Z") (wX4_stop_f21)) (fun _ h9 => h9) rfl dX4_stop_8 ?_
  refine lv_iload_n hx hb dX4_stop_11 rfl (lv_at hl 1 rfl) ?_
  refine lv_iconst (v := nI 0) hx hb dX4_stop_12 (by decide) ?_
  refine q_sB hx hb hK hP hD hS 2 1 rfl rfl (k := pe) (x := false) (by omega) (by decide) dX4_stop_13 (fun H locs hP hD hS => ?_)
  have hP : va_P (dC, dI) vwCl [(t0, .inr (4, [.ref t1, .ref t2, .ref t3, .ref t4, .ref u0, .int (nI li), .ref t5])), (t3, .inl (cI, 6, .inl (cN (va_up kc pe 0)))), (t4, .inl (cZ, 6, .inl (cB (va_up ak pe false)))), (u0, .inr (1, [.ref u1, .int (nI pu.length)])), (u1, .inl (cI, 6, .inl (cN pur)))] H := hP
  have hD : va_D A [(t0, .inr (4, [.ref t1, .ref t2, .ref t3, .ref t4, .ref u0, .int (nI li), .ref t5])), (t3, .inl (cI, 6, .inl (cN (va_up kc pe 0)))), (t4, .inl (cZ, 6, .inl (cB (va_up ak pe false)))), (u0, .inr (1, [.ref u1, .int (nI pu.length)])), (u1, .inl (cI, 6, .inl (cN pur)))] := hD
  refine lv_aload_n hx hb dX4_stop_14 rfl (lv_at hl 0 rfl) ?_
  refine va_get (D := (dC, dI)) (ci := 4) (v := .ref u0) (C := RX4) (T := TX4) (N := 7) hx hb hts (wX4_stop_X4_u) hown hK hP 0 rfl rfl 4 (by decide) (hts (.fieldLink RX4 28 "Confroom$Streams" "published" "LConfroom$Line;") (wX4_stop_f28)) (fun _ h9 => h9) rfl dX4_stop_15 ?_
  refine lv_iload_n hx hb dX4_stop_18 rfl (lv_at hl 1 rfl) ?_
  have hPc := hP.sub (ws' := [(u0, .inr (1, [.ref u1, .int (nI pu.length)])), (u1, .inl (cI, 6, .inl (cN pur)))]) [3, 4] rfl
  have hDc := hD.sub (ws' := [(u0, .inr (1, [.ref u1, .int (nI pu.length)])), (u1, .inl (cI, 6, .inl (cN pur)))]) [3, 4] (by decide) rfl
  have hFc := va_free (wc := [(u0, .inr (1, [.ref u1, .int (nI pu.length)])), (u1, .inl (cI, 6, .inl (cN pur)))]) hD hS hA [3, 4] rfl
  have hq1_0 : lrep pur pu := by
    first | assumption | omega
  have hq1_1 : pe < 2147483648 := by
    first | assumption | omega
  refine va_callv (va_runV (As := [.int (nI pe)]) (rest := []) ⟨hx, hb, hml, hown, hts⟩ (c_X1_drop l dC dI cI cZ cG u0 u1 pur pu pe H.size hq1_0 hq1_1) (cwV 1 hts gX4_stop_X1_drop rfl rfl rfl (by decide +kernel) ⟨Nat.le_of_ble_eq_true rfl, Nat.le_of_ble_eq_true rfl⟩) ⟨fun a U g mk q => q_blind q, va_recv hK hPc (ci := 1) (q0 := 0) rfl rfl, fun U hU hW => ⟨rfl, by rw [hU], by rw [hU]; exact hPc, va_K.moved hW.alike hK, hDc.weaken (fun _ _ _ _ => trivial)⟩⟩ rfl rfl hl.1 rfl (lv_room (Nat.le_of_ble_eq_true rfl)) dX4_stop_19 ⟨by decide, by decide⟩) hS (fun q _ h => hFc q h) hFc (fun u t H1 locs ht hvm hw hB hz1 hk1 hS => ?_)
  obtain ⟨row2_1, hp1_0, hP1, hD1⟩ := hB
  rw [ht] at hP1
  obtain ⟨hP, hD⟩ := va_join (wr := [(t0, .inr (4, [.ref t1, .ref t2, .ref t3, .ref t4, .ref u0, .int (nI li), .ref t5])), (t3, .inl (cI, 6, .inl (cN (va_up kc pe 0)))), (t4, .inl (cZ, 6, .inl (cB (va_up ak pe false))))]) (w1 := [(u0, .inr (1, [.ref u1, .int (nI ((dropL pu pe).length))])), (u1, .inl (cI, 6, .inl (cN row2_1)))]) hP hD [3, 4] [0, 1, 2] rfl rfl (by decide) (by decide) hk1 hFc hP1 hD1
  generalize H1 = H at hP hS ⊢
  have hP := hP.sub (ws' := [(t0, .inr (4, [.ref t1, .ref t2, .ref t3, .ref t4, .ref u0, .int (nI li), .ref t5])), (t3, .inl (cI, 6, .inl (cN (va_up kc pe 0)))), (t4, .inl (cZ, 6, .inl (cB (va_up ak pe false)))), (u0, .inr (1, [.ref u1, .int (nI ((dropL pu pe).length))])), (u1, .inl (cI, 6, .inl (cN row2_1)))]) [0, 1, 2, 3, 4] rfl
  have hD := hD.sub (ws' := [(t0, .inr (4, [.ref t1, .ref t2, .ref t3, .ref t4, .ref u0, .int (nI li), .ref t5])), (t3, .inl (cI, 6, .inl (cN (va_up kc pe 0)))), (t4, .inl (cZ, 6, .inl (cB (va_up ak pe false)))), (u0, .inr (1, [.ref u1, .int (nI ((dropL pu pe).length))])), (u1, .inl (cI, 6, .inl (cN row2_1)))]) [0, 1, 2, 3, 4] (by decide) rfl
  refine kret 22 _ _ _ row2_1 ?_ dX4_stop_22 hP hD hS
  · first | assumption | omega

set_option maxHeartbeats 4000000 in
set_option maxRecDepth 100000 in
theorem c_X4_stop (l : Launch) (dC : Nat → ClassId) (dI : Nat → Nat → Nat) (cI cZ cG : ClassId) (t0 : Nat) (t1 : Nat) (t2 : Nat) (t3 : Nat) (t4 : Nat) (t5 : Nat) (u0 : Nat) (li : Nat) (u1 : Nat) (kc : Nat → Nat) (ak : Nat → Bool) (pur : Nat → Nat) (pu : List Nat) (pe : Nat) (sz : Nat) (hp : pe < 6) (hr : lrep pur pu) : Met l yX4_stop wsX4_stop ({ frames := 1, cells := 0, slots := 0, locals := 23 } : Room) (va_Pc [.ref t0, .int (nI pe)] (fun U => U.heap.size = sz ∧ va_P (dC, dI) vwCl [(t0, .inr (4, [.ref t1, .ref t2, .ref t3, .ref t4, .ref u0, .int (nI li), .ref t5])), (t3, .inl (cI, 6, .inl (cN kc))), (t4, .inl (cZ, 6, .inl (cB ak))), (u0, .inr (1, [.ref u1, .int (nI pu.length)])), (u1, .inl (cI, 6, .inl (cN pur)))] U.heap ∧ va_K (dC, dI) vwCl [(cI, .int), (cZ, .boolean), (cG, .array .int)] U ∧ va_D (fun _ => True) [(t0, .inr (4, [.ref t1, .ref t2, .ref t3, .ref t4, .ref u0, .int (nI li), .ref t5])), (t3, .inl (cI, 6, .inl (cN kc))), (t4, .inl (cZ, 6, .inl (cB ak))), (u0, .inr (1, [.ref u1, .int (nI pu.length)])), (u1, .inl (cI, 6, .inl (cN pur)))])) (va_Qv (fun (_ : Unit) => True) (fun (_ : Unit) t => ∃ (pur2 : Nat → Nat), (lrep pur2 (dropL pu pe)) ∧ va_P (dC, dI) vwCl [(t0, .inr (4, [.ref t1, .ref t2, .ref t3, .ref t4, .ref u0, .int (nI li), .ref t5])), (t3, .inl (cI, 6, .inl (cN (va_up kc pe 0)))), (t4, .inl (cZ, 6, .inl (cB (va_up ak pe false)))), (u0, .inr (1, [.ref u1, .int (nI ((dropL pu pe).length))])), (u1, .inl (cI, 6, .inl (cN pur2)))] t.heap ∧ va_D (va_A [(t0, .inr (4, [.ref t1, .ref t2, .ref t3, .ref t4, .ref u0, .int (nI li), .ref t5])), (t3, .inl (cI, 6, .inl (cN kc))), (t4, .inl (cZ, 6, .inl (cB ak))), (u0, .inr (1, [.ref u1, .int (nI pu.length)])), (u1, .inl (cI, 6, .inl (cN pur)))] sz) [(t0, .inr (4, [.ref t1, .ref t2, .ref t3, .ref t4, .ref u0, .int (nI li), .ref t5])), (t3, .inl (cI, 6, .inl (cN (va_up kc pe 0)))), (t4, .inl (cZ, 6, .inl (cB (va_up ak pe false)))), (u0, .inr (1, [.ref u1, .int (nI ((dropL pu pe).length))])), (u1, .inl (cI, 6, .inl (cN pur2)))]) (va_A [(t0, .inr (4, [.ref t1, .ref t2, .ref t3, .ref t4, .ref u0, .int (nI li), .ref t5])), (t3, .inl (cI, 6, .inl (cN kc))), (t4, .inl (cZ, 6, .inl (cB ak))), (u0, .inr (1, [.ref u1, .int (nI pu.length)])), (u1, .inl (cI, 6, .inl (cN pur)))] sz)) 0 0 (va_A [(t0, .inr (4, [.ref t1, .ref t2, .ref t3, .ref t4, .ref u0, .int (nI li), .ref t5])), (t3, .inl (cI, 6, .inl (cN kc))), (t4, .inl (cZ, 6, .inl (cB ak))), (u0, .inr (1, [.ref u1, .int (nI pu.length)])), (u1, .inl (cI, 6, .inl (cN pur)))] sz) := by
  refine Met.ofW (cc := cX4_stop) (maxL := 2) (ret := none) (by decide) rfl ?_
  intro p e s m args below meth c s₁ B hml hv
  obtain ⟨rfl, hsz, hP, hK, hD0⟩ := hv
  have hts := atoms_spec (ws := wsX4_stop) B.pre
  have hown : s.vm.findClass RX4 = some m.cls := findClass_of_methodNamed B.named
  have hlocks := B.notSynchronized
  subst hsz
  have hD := hD0.self (sz := s.heap.size)
  have hA : ∀ q : Nat, s.heap.size ≤ q → va_A [(t0, .inr (4, [.ref t1, .ref t2, .ref t3, .ref t4, .ref u0, .int (nI li), .ref t5])), (t3, .inl (cI, 6, .inl (cN kc))), (t4, .inl (cZ, 6, .inl (cB ak))), (u0, .inr (1, [.ref u1, .int (nI pu.length)])), (u1, .inl (cI, 6, .inl (cN pur)))] s.heap.size q := fun q h => Or.inr h
  have hl := lv_entry ([.ref t0, .int (nI pe)]) (n := 2) (Nat.le_of_ble_eq_true rfl)
  rw [lg_entry_eq]
  generalize (lg_sl ([.ref t0, .int (nI pe)]) ++ List.replicate (2 - (lg_sl ([.ref t0, .int (nI pe)])).length) Slot.unset).toArray = ls at hl ⊢
  have hl : lv_has ls 2 [(0, .ref t0), (1, .int (nI pe))] := hl
  have hx := B.exec
  have hb := B.bytes
  exact b_X4_stop hx hb hml hown hts hK hA t0 t1 t2 t3 t4 t5 u0 li u1 kc ak pur pu pe hp hr  hP hD va_S.rf hl (fun pcr H locs ls pur2 hp0 hd hP hD hS => W.vret hx hb B.returns (fun t ht hW => ⟨⟨(), rfl, trivial, pur2, hp0, by rw [ht]; exact hP, hD⟩, hS.F ht⟩) hS.2.2 hd)
theorem wX4_rateOf_f15 : Cond.fieldLink RX4 15 "Confroom$Streams" "step" "[I" ∈ wsX4_rateOf := by decide +kernel
theorem wX4_rateOf_f9 : Cond.fieldLink RX4 9 "Confroom$Streams" "base" "[I" ∈ wsX4_rateOf := by decide +kernel
theorem wX4_rateOf_X4_u : ∀ w ∈ u_ws RX4 TX4 7, w ∈ wsX4_rateOf := by decide +kernel
set_option maxHeartbeats 4000000 in
set_option maxRecDepth 100000 in
theorem b_X4_rateOf {p : Program} {l : Launch} {e : Env} {s : State} {m : MethodId} {args : Array Value} {below : List Frame} {meth : Method} {c : Code} {Q : State → Prop} {A : Nat → Prop} {dC : Nat → ClassId} {dI : Nat → Nat → Nat} {cI cZ cG : ClassId} (hx : p.tables.exec = Jvm.exec) (hb : c.code = cX4_rateOf) (hml : c.maxLocals = 3) (hown : s.vm.findClass RX4 = some m.cls) (hts : ∀ w ∈ wsX4_rateOf, w.before args s = true) (hK : va_K (dC, dI) vwCl [(cI, .int), (cZ, .boolean), (cG, .array .int)] s) (hA : ∀ q : Nat, s.heap.size ≤ q → A q) (t0 : Nat) (t1 : Nat) (t2 : Nat) (t3 : Nat) (t4 : Nat) (t5 : Nat) (u0 : Nat) (li : Nat) (ba : Nat → Nat) (se : Nat → Nat) (pe : Nat) (y1 : Nat) (hp : pe < 6) (hy : y1 < 1000)  {H : Heap} {locs : List Loc} {ls : Array Slot} (hP : va_P (dC, dI) vwCl [(t0, .inr (4, [.ref t1, .ref t2, .ref t3, .ref t4, .ref u0, .int (nI li), .ref t5])), (t1, .inl (cI, 6, .inl (cN ba))), (t2, .inl (cI, 6, .inl (cN se)))] H) (hD : va_D A [(t0, .inr (4, [.ref t1, .ref t2, .ref t3, .ref t4, .ref u0, .int (nI li), .ref t5])), (t1, .inl (cI, 6, .inl (cN ba))), (t2, .inl (cI, 6, .inl (cN se)))]) (hS : va_S A s.heap H locs) (hl : lv_has ls 3 [(0, .ref t0), (1, .int (nI pe)), (2, .int (nI y1))]) (kret : ∀ (pcr : Nat) (H : Heap) (locs : List Loc) (ls : Array Slot) , decode cX4_rateOf pcr = .ok (.ireturn, 1) → va_P (dC, dI) vwCl [(t0, .inr (4, [.ref t1, .ref t2, .ref t3, .ref t4, .ref u0, .int (nI li), .ref t5])), (t1, .inl (cI, 6, .inl (cN ba))), (t2, .inl (cI, 6, .inl (cN se)))] H → va_D A [(t0, .inr (4, [.ref t1, .ref t2, .ref t3, .ref t4, .ref u0, .int (nI li), .ref t5])), (t1, .inl (cI, 6, .inl (cN ba))), (t2, .inl (cI, 6, .inl (cN se)))] → va_S A s.heap H locs → W p l e ({ frames := 0, cells := 0, slots := 0, locals := 0 } : Room) s m args below meth c H locs 0 0 Q (F0 m pcr ls [.int (nI (rateF ba se pe y1))])) : W p l e ({ frames := 0, cells := 0, slots := 0, locals := 0 } : Room) s m args below meth c H locs 0 0 Q (F0 m 0 ls []) := by
  refine lv_iload_n hx hb dX4_rateOf_0 rfl (lv_at hl 2 rfl) ?_
  refine q_0ne (tgt := 8) hx hb (a := y1) (by omega) dX4_rateOf_1 (by decide) (fun c1 => ?_) (fun c1 => ?_)
  · refine lv_aload_n hx hb dX4_rateOf_8 rfl (lv_at hl 0 rfl) ?_
    refine va_get (D := (dC, dI)) (ci := 4) (v := .ref t1) (C := RX4) (T := TX4) (N := 7) hx hb hts (wX4_rateOf_X4_u) hown hK hP 0 rfl rfl 0 (by decide) (hts (.fieldLink RX4 9 "Confroom$Streams" "base" "[I") (wX4_rateOf_f9)) (fun _ h9 => h9) rfl dX4_rateOf_9 ?_
    refine lv_iload_n hx hb dX4_rateOf_12 rfl (lv_at hl 1 rfl) ?_
    refine q_iN hx hb hK hP 1 0 rfl rfl (k := pe) (by omega) (by decide) dX4_rateOf_13 ?_
    refine lv_iload_n hx hb dX4_rateOf_14 rfl (lv_at hl 2 rfl) ?_
    refine lv_iconst (v := nI 1) hx hb dX4_rateOf_15 (by decide) ?_
    refine lv_isub hx hb dX4_rateOf_16 (q_as (pk_sub (by omega)) ?_)
    refine lv_aload_n hx hb dX4_rateOf_17 rfl (lv_at hl 0 rfl) ?_
    refine va_get (D := (dC, dI)) (ci := 4) (v := .ref t2) (C := RX4) (T := TX4) (N := 7) hx hb hts (wX4_rateOf_X4_u) hown hK hP 0 rfl rfl 1 (by decide) (hts (.fieldLink RX4 15 "Confroom$Streams" "step" "[I") (wX4_rateOf_f15)) (fun _ h9 => h9) rfl dX4_rateOf_18 ?_
    refine lv_iload_n hx hb dX4_rateOf_21 rfl (lv_at hl 1 rfl) ?_
    refine q_iN hx hb hK hP 2 0 rfl rfl (k := pe) (by omega) (by decide) dX4_rateOf_22 ?_
    refine lv_imul hx hb dX4_rateOf_23 (q_as (pk_mul (y1 - 1) (se pe)) ?_)
    refine lv_iadd hx hb dX4_rateOf_24 (q_as (nI_add (ba pe) ((y1 - 1) * (se pe))) ?_)
    have ev1 : nI (ba pe + ((y1 - 1) * (se pe))) = nI (rateF ba se pe y1) := by congr 1; simp [rateF, c1]
    refine q_as ((show nI (ba pe + ((y1 - 1) * (se pe))) = nI (ba pe + ((y1 - 1) * (se pe))) from rfl).trans ev1) ?_
    refine kret 25 _ _ _   dX4_rateOf_25 hP hD hS
  · refine lv_iconst (v := nI 0) hx hb dX4_rateOf_4 (by decide) ?_
    refine lv_goto (tgt := 25) hx hb dX4_rateOf_5 (by decide) ?_
    have ev2 : nI 0 = nI (rateF ba se pe y1) := by congr 1; simp [rateF, c1]
    refine q_as ((show nI 0 = nI 0 from rfl).trans ev2) ?_
    refine kret 25 _ _ _   dX4_rateOf_25 hP hD hS

set_option maxHeartbeats 4000000 in
set_option maxRecDepth 100000 in
theorem c_X4_rateOf (l : Launch) (dC : Nat → ClassId) (dI : Nat → Nat → Nat) (cI cZ cG : ClassId) (t0 : Nat) (t1 : Nat) (t2 : Nat) (t3 : Nat) (t4 : Nat) (t5 : Nat) (u0 : Nat) (li : Nat) (ba : Nat → Nat) (se : Nat → Nat) (pe : Nat) (y1 : Nat) (sz : Nat) (hp : pe < 6) (hy : y1 < 1000) : Met l yX4_rateOf wsX4_rateOf ({ frames := 0, cells := 0, slots := 0, locals := 0 } : Room) (va_Pc [.ref t0, .int (nI pe), .int (nI y1)] (fun U => U.heap.size = sz ∧ va_P (dC, dI) vwCl [(t0, .inr (4, [.ref t1, .ref t2, .ref t3, .ref t4, .ref u0, .int (nI li), .ref t5])), (t1, .inl (cI, 6, .inl (cN ba))), (t2, .inl (cI, 6, .inl (cN se)))] U.heap ∧ va_K (dC, dI) vwCl [(cI, .int), (cZ, .boolean), (cG, .array .int)] U ∧ va_D (fun _ => True) [(t0, .inr (4, [.ref t1, .ref t2, .ref t3, .ref t4, .ref u0, .int (nI li), .ref t5])), (t1, .inl (cI, 6, .inl (cN ba))), (t2, .inl (cI, 6, .inl (cN se)))])) (va_Qi (fun (r u : Int32) => r = u) (fun (u : Int32) t => u = nI (rateF ba se pe y1) ∧ va_P (dC, dI) vwCl [(t0, .inr (4, [.ref t1, .ref t2, .ref t3, .ref t4, .ref u0, .int (nI li), .ref t5])), (t1, .inl (cI, 6, .inl (cN ba))), (t2, .inl (cI, 6, .inl (cN se)))] t.heap ∧ va_D (va_A [(t0, .inr (4, [.ref t1, .ref t2, .ref t3, .ref t4, .ref u0, .int (nI li), .ref t5])), (t1, .inl (cI, 6, .inl (cN ba))), (t2, .inl (cI, 6, .inl (cN se)))] sz) [(t0, .inr (4, [.ref t1, .ref t2, .ref t3, .ref t4, .ref u0, .int (nI li), .ref t5])), (t1, .inl (cI, 6, .inl (cN ba))), (t2, .inl (cI, 6, .inl (cN se)))]) (va_A [(t0, .inr (4, [.ref t1, .ref t2, .ref t3, .ref t4, .ref u0, .int (nI li), .ref t5])), (t1, .inl (cI, 6, .inl (cN ba))), (t2, .inl (cI, 6, .inl (cN se)))] sz)) 0 0 (va_A [(t0, .inr (4, [.ref t1, .ref t2, .ref t3, .ref t4, .ref u0, .int (nI li), .ref t5])), (t1, .inl (cI, 6, .inl (cN ba))), (t2, .inl (cI, 6, .inl (cN se)))] sz) := by
  refine Met.ofW (cc := cX4_rateOf) (maxL := 3) (ret := (some .int)) (by decide) rfl ?_
  intro p e s m args below meth c s₁ B hml hv
  obtain ⟨rfl, hsz, hP, hK, hD0⟩ := hv
  have hts := atoms_spec (ws := wsX4_rateOf) B.pre
  have hown : s.vm.findClass RX4 = some m.cls := findClass_of_methodNamed B.named
  have hlocks := B.notSynchronized
  subst hsz
  have hD := hD0.self (sz := s.heap.size)
  have hA : ∀ q : Nat, s.heap.size ≤ q → va_A [(t0, .inr (4, [.ref t1, .ref t2, .ref t3, .ref t4, .ref u0, .int (nI li), .ref t5])), (t1, .inl (cI, 6, .inl (cN ba))), (t2, .inl (cI, 6, .inl (cN se)))] s.heap.size q := fun q h => Or.inr h
  have hl := lv_entry ([.ref t0, .int (nI pe), .int (nI y1)]) (n := 3) (Nat.le_of_ble_eq_true rfl)
  rw [lg_entry_eq]
  generalize (lg_sl ([.ref t0, .int (nI pe), .int (nI y1)]) ++ List.replicate (3 - (lg_sl ([.ref t0, .int (nI pe), .int (nI y1)])).length) Slot.unset).toArray = ls at hl ⊢
  have hl : lv_has ls 3 [(0, .ref t0), (1, .int (nI pe)), (2, .int (nI y1))] := hl
  have hx := B.exec
  have hb := B.bytes
  exact b_X4_rateOf hx hb hml hown hts hK hA t0 t1 t2 t3 t4 t5 u0 li ba se pe y1 hp hy  hP hD va_S.rf hl (fun pcr H locs ls   hd hP hD hS => W.iret hx hb B.returns (fun t ht hW => ⟨⟨_, _, rfl, rfl, rfl, by rw [ht]; exact hP, hD⟩, hS.F ht⟩) hS.2.2 hd)
theorem wX4_canMakeKey_f18 : Cond.fieldLink RX4 18 "Confroom$Streams" "keyCount" "[I" ∈ wsX4_canMakeKey := by decide +kernel
theorem wX4_canMakeKey_f21 : Cond.fieldLink RX4 21 "Confroom$Streams" "asked" "[Z" ∈ wsX4_canMakeKey := by decide +kernel
theorem wX4_canMakeKey_f32 : Cond.fieldLink RX4 32 "Confroom$Streams" "limit" "I" ∈ wsX4_canMakeKey := by decide +kernel
theorem wX4_canMakeKey_f36 : Cond.fieldLink RX4 36 "Confroom$Streams" "lastKey" "[I" ∈ wsX4_canMakeKey := by decide +kernel
theorem wX4_canMakeKey_X4_u : ∀ w ∈ u_ws RX4 TX4 7, w ∈ wsX4_canMakeKey := by decide +kernel
set_option maxHeartbeats 4000000 in
set_option maxRecDepth 100000 in
theorem b_X4_canMakeKey {p : Program} {l : Launch} {e : Env} {s : State} {m : MethodId} {args : Array Value} {below : List Frame} {meth : Method} {c : Code} {Q : State → Prop} {A : Nat → Prop} {dC : Nat → ClassId} {dI : Nat → Nat → Nat} {cI cZ cG : ClassId} (hx : p.tables.exec = Jvm.exec) (hb : c.code = cX4_canMakeKey) (hml : c.maxLocals = 3) (hown : s.vm.findClass RX4 = some m.cls) (hts : ∀ w ∈ wsX4_canMakeKey, w.before args s = true) (hK : va_K (dC, dI) vwCl [(cI, .int), (cZ, .boolean), (cG, .array .int)] s) (hA : ∀ q : Nat, s.heap.size ≤ q → A q) (t0 : Nat) (t1 : Nat) (t2 : Nat) (t3 : Nat) (t4 : Nat) (t5 : Nat) (u0 : Nat) (li : Nat) (kc : Nat → Nat) (ak : Nat → Bool) (lk : Nat → Nat) (pe : Nat) (ti : Nat) (hp : pe < 6) (hkc : ∀ k, kc k < 1000000) (hlk : ∀ k, lk k ≤ ti) (hti : ti < 1000000) (hli : li ≤ 10)  {H : Heap} {locs : List Loc} {ls : Array Slot} (hP : va_P (dC, dI) vwCl [(t0, .inr (4, [.ref t1, .ref t2, .ref t3, .ref t4, .ref u0, .int (nI li), .ref t5])), (t3, .inl (cI, 6, .inl (cN kc))), (t4, .inl (cZ, 6, .inl (cB ak))), (t5, .inl (cI, 6, .inl (cN lk)))] H) (hD : va_D A [(t0, .inr (4, [.ref t1, .ref t2, .ref t3, .ref t4, .ref u0, .int (nI li), .ref t5])), (t3, .inl (cI, 6, .inl (cN kc))), (t4, .inl (cZ, 6, .inl (cB ak))), (t5, .inl (cI, 6, .inl (cN lk)))]) (hS : va_S A s.heap H locs) (hl : lv_has ls 3 [(0, .ref t0), (1, .int (nI pe)), (2, .int (nI ti))]) (kret : ∀ (pcr : Nat) (H : Heap) (locs : List Loc) (ls : Array Slot) , decode cX4_canMakeKey pcr = .ok (.ireturn, 1) → va_P (dC, dI) vwCl [(t0, .inr (4, [.ref t1, .ref t2, .ref t3, .ref t4, .ref u0, .int (nI li), .ref t5])), (t3, .inl (cI, 6, .inl (cN kc))), (t4, .inl (cZ, 6, .inl (cB ak))), (t5, .inl (cI, 6, .inl (cN lk)))] H → va_D A [(t0, .inr (4, [.ref t1, .ref t2, .ref t3, .ref t4, .ref u0, .int (nI li), .ref t5])), (t3, .inl (cI, 6, .inl (cN kc))), (t4, .inl (cZ, 6, .inl (cB ak))), (t5, .inl (cI, 6, .inl (cN lk)))] → va_S A s.heap H locs → W p l e ({ frames := 0, cells := 0, slots := 0, locals := 0 } : Room) s m args below meth c H locs 0 0 Q (F0 m pcr ls [.int (bI (canF ak kc lk li pe ti))])) : W p l e ({ frames := 0, cells := 0, slots := 0, locals := 0 } : Room) s m args below meth c H locs 0 0 Q (F0 m 0 ls []) := by
  refine lv_aload_n hx hb dX4_canMakeKey_0 rfl (lv_at hl 0 rfl) ?_
  refine va_get (D := (dC, dI)) (ci := 4) (v := .ref t4) (C := RX4) (T := TX4) (N := 7) hx hb hts (wX4_canMakeKey_X4_u) hown hK hP 0 rfl rfl 3 (by decide) (hts (.fieldLink RX4 21 "Confroom$Streams" "asked" "[Z") (wX4_canMakeKey_f21)) (fun _ h9 => h9) rfl dX4_canMakeKey_1 ?_
  refine lv_iload_n hx hb dX4_canMakeKey_4 rfl (lv_at hl 1 rfl) ?_
  refine q_zB hx hb hK hP 2 1 rfl rfl (k := pe) (by omega) (by decide) dX4_canMakeKey_5 ?_
  refine q_zne (tgt := 11) hx hb (b := (ak pe)) dX4_canMakeKey_6 (by decide) (fun c6 => ?_) (fun c6 => ?_)
  · refine lv_aload_n hx hb dX4_canMakeKey_11 rfl (lv_at hl 0 rfl) ?_
    refine va_get (D := (dC, dI)) (ci := 4) (v := .ref t3) (C := RX4) (T := TX4) (N := 7) hx hb hts (wX4_canMakeKey_X4_u) hown hK hP 0 rfl rfl 2 (by decide) (hts (.fieldLink RX4 18 "Confroom$Streams" "keyCount" "[I") (wX4_canMakeKey_f18)) (fun _ h9 => h9) rfl dX4_canMakeKey_12 ?_
    refine lv_iload_n hx hb dX4_canMakeKey_15 rfl (lv_at hl 1 rfl) ?_
    refine q_iN hx hb hK hP 1 0 rfl rfl (k := pe) (by omega) (by decide) dX4_canMakeKey_16 ?_
    have hv1 := hkc pe
    refine q_0eq (tgt := 35) hx hb (a := (kc pe)) (by omega) dX4_canMakeKey_17 (by decide) (fun c17 => ?_) (fun c17 => ?_)
    · refine lv_iconst (v := nI 1) hx hb dX4_canMakeKey_35 (by decide) ?_
      refine lv_goto (tgt := 40) hx hb dX4_canMakeKey_36 (by decide) ?_
      have ev2 : bI true = bI (canF ak kc lk li pe ti) := by congr 1; simp [canF, *]
      refine q_as ((show nI 1 = bI true from rfl).trans ev2) ?_
      refine kret 40 _ _ _   dX4_canMakeKey_40 hP hD hS
    · refine lv_iload_n hx hb dX4_canMakeKey_20 rfl (lv_at hl 2 rfl) ?_
      refine lv_aload_n hx hb dX4_canMakeKey_21 rfl (lv_at hl 0 rfl) ?_
      refine va_get (D := (dC, dI)) (ci := 4) (v := .ref t5) (C := RX4) (T := TX4) (N := 7) hx hb hts (wX4_canMakeKey_X4_u) hown hK hP 0 rfl rfl 6 (by decide) (hts (.fieldLink RX4 36 "Confroom$Streams" "lastKey" "[I") (wX4_canMakeKey_f36)) (fun _ h9 => h9) rfl dX4_canMakeKey_22 ?_
      refine lv_iload_n hx hb dX4_canMakeKey_25 rfl (lv_at hl 1 rfl) ?_
      refine q_iN hx hb hK hP 3 0 rfl rfl (k := pe) (by omega) (by decide) dX4_canMakeKey_26 ?_
      have hv3 := hlk pe
      refine lv_isub hx hb dX4_canMakeKey_27 (q_as (pk_sub (by omega)) ?_)
      refine lv_aload_n hx hb dX4_canMakeKey_28 rfl (lv_at hl 0 rfl) ?_
      refine va_get (D := (dC, dI)) (ci := 4) (v := .int (nI li)) (C := RX4) (T := TX4) (N := 7) hx hb hts (wX4_canMakeKey_X4_u) hown hK hP 0 rfl rfl 5 (by decide) (hts (.fieldLink RX4 32 "Confroom$Streams" "limit" "I") (wX4_canMakeKey_f32)) (fun _ h9 => h9) rfl dX4_canMakeKey_29 ?_
      refine q_le (tgt := 39) hx hb (a := (ti - (lk pe))) (b := li) (by omega) (by omega) dX4_canMakeKey_32 (by decide) (fun c32 => ?_) (fun c32 => ?_)
      · refine lv_iconst (v := nI 0) hx hb dX4_canMakeKey_39 (by decide) ?_
        have ev4 : bI false = bI (canF ak kc lk li pe ti) := by congr 1; simp [canF, *]
        refine q_as ((show nI 0 = bI false from rfl).trans ev4) ?_
        refine kret 40 _ _ _   dX4_canMakeKey_40 hP hD hS
      · refine lv_iconst (v := nI 1) hx hb dX4_canMakeKey_35 (by decide) ?_
        refine lv_goto (tgt := 40) hx hb dX4_canMakeKey_36 (by decide) ?_
        have ev5 : bI true = bI (canF ak kc lk li pe ti) := by congr 1; simp [canF, *]
        refine q_as ((show nI 1 = bI true from rfl).trans ev5) ?_
        refine kret 40 _ _ _   dX4_canMakeKey_40 hP hD hS
  · refine lv_iconst (v := nI 0) hx hb dX4_canMakeKey_9 (by decide) ?_
    have ev6 : bI false = bI (canF ak kc lk li pe ti) := by congr 1; simp [canF, c6]
    refine q_as ((show nI 0 = bI false from rfl).trans ev6) ?_
    refine kret 10 _ _ _   dX4_canMakeKey_10 hP hD hS

set_option maxHeartbeats 4000000 in
set_option maxRecDepth 100000 in
theorem c_X4_canMakeKey (l : Launch) (dC : Nat → ClassId) (dI : Nat → Nat → Nat) (cI cZ cG : ClassId) (t0 : Nat) (t1 : Nat) (t2 : Nat) (t3 : Nat) (t4 : Nat) (t5 : Nat) (u0 : Nat) (li : Nat) (kc : Nat → Nat) (ak : Nat → Bool) (lk : Nat → Nat) (pe : Nat) (ti : Nat) (sz : Nat) (hp : pe < 6) (hkc : ∀ k, kc k < 1000000) (hlk : ∀ k, lk k ≤ ti) (hti : ti < 1000000) (hli : li ≤ 10) : Met l yX4_canMakeKey wsX4_canMakeKey ({ frames := 0, cells := 0, slots := 0, locals := 0 } : Room) (va_Pc [.ref t0, .int (nI pe), .int (nI ti)] (fun U => U.heap.size = sz ∧ va_P (dC, dI) vwCl [(t0, .inr (4, [.ref t1, .ref t2, .ref t3, .ref t4, .ref u0, .int (nI li), .ref t5])), (t3, .inl (cI, 6, .inl (cN kc))), (t4, .inl (cZ, 6, .inl (cB ak))), (t5, .inl (cI, 6, .inl (cN lk)))] U.heap ∧ va_K (dC, dI) vwCl [(cI, .int), (cZ, .boolean), (cG, .array .int)] U ∧ va_D (fun _ => True) [(t0, .inr (4, [.ref t1, .ref t2, .ref t3, .ref t4, .ref u0, .int (nI li), .ref t5])), (t3, .inl (cI, 6, .inl (cN kc))), (t4, .inl (cZ, 6, .inl (cB ak))), (t5, .inl (cI, 6, .inl (cN lk)))])) (va_Qi (fun (r u : Int32) => r = u) (fun (u : Int32) t => u = bI (canF ak kc lk li pe ti) ∧ va_P (dC, dI) vwCl [(t0, .inr (4, [.ref t1, .ref t2, .ref t3, .ref t4, .ref u0, .int (nI li), .ref t5])), (t3, .inl (cI, 6, .inl (cN kc))), (t4, .inl (cZ, 6, .inl (cB ak))), (t5, .inl (cI, 6, .inl (cN lk)))] t.heap ∧ va_D (va_A [(t0, .inr (4, [.ref t1, .ref t2, .ref t3, .ref t4, .ref u0, .int (nI li), .ref t5])), (t3, .inl (cI, 6, .inl (cN kc))), (t4, .inl (cZ, 6, .inl (cB ak))), (t5, .inl (cI, 6, .inl (cN lk)))] sz) [(t0, .inr (4, [.ref t1, .ref t2, .ref t3, .ref t4, .ref u0, .int (nI li), .ref t5])), (t3, .inl (cI, 6, .inl (cN kc))), (t4, .inl (cZ, 6, .inl (cB ak))), (t5, .inl (cI, 6, .inl (cN lk)))]) (va_A [(t0, .inr (4, [.ref t1, .ref t2, .ref t3, .ref t4, .ref u0, .int (nI li), .ref t5])), (t3, .inl (cI, 6, .inl (cN kc))), (t4, .inl (cZ, 6, .inl (cB ak))), (t5, .inl (cI, 6, .inl (cN lk)))] sz)) 0 0 (va_A [(t0, .inr (4, [.ref t1, .ref t2, .ref t3, .ref t4, .ref u0, .int (nI li), .ref t5])), (t3, .inl (cI, 6, .inl (cN kc))), (t4, .inl (cZ, 6, .inl (cB ak))), (t5, .inl (cI, 6, .inl (cN lk)))] sz) := by
  refine Met.ofW (cc := cX4_canMakeKey) (maxL := 3) (ret := (some .boolean)) (by decide) rfl ?_
  intro p e s m args below meth c s₁ B hml hv
  obtain ⟨rfl, hsz, hP, hK, hD0⟩ := hv
  have hts := atoms_spec (ws := wsX4_canMakeKey) B.pre
  have hown : s.vm.findClass RX4 = some m.cls := findClass_of_methodNamed B.named
  have hlocks := B.notSynchronized
  subst hsz
  have hD := hD0.self (sz := s.heap.size)
  have hA : ∀ q : Nat, s.heap.size ≤ q → va_A [(t0, .inr (4, [.ref t1, .ref t2, .ref t3, .ref t4, .ref u0, .int (nI li), .ref t5])), (t3, .inl (cI, 6, .inl (cN kc))), (t4, .inl (cZ, 6, .inl (cB ak))), (t5, .inl (cI, 6, .inl (cN lk)))] s.heap.size q := fun q h => Or.inr h
  have hl := lv_entry ([.ref t0, .int (nI pe), .int (nI ti)]) (n := 3) (Nat.le_of_ble_eq_true rfl)
  rw [lg_entry_eq]
  generalize (lg_sl ([.ref t0, .int (nI pe), .int (nI ti)]) ++ List.replicate (3 - (lg_sl ([.ref t0, .int (nI pe), .int (nI ti)])).length) Slot.unset).toArray = ls at hl ⊢
  have hl : lv_has ls 3 [(0, .ref t0), (1, .int (nI pe)), (2, .int (nI ti))] := hl
  have hx := B.exec
  have hb := B.bytes
  exact b_X4_canMakeKey hx hb hml hown hts hK hA t0 t1 t2 t3 t4 t5 u0 li kc ak lk pe ti hp hkc hlk hti hli  hP hD va_S.rf hl (fun pcr H locs ls   hd hP hD hS => W.zret hx hb B.returns (q_nz _) (fun t ht hW => ⟨⟨_, _, rfl, rfl, rfl, by rw [ht]; exact hP, hD⟩, hS.F ht⟩) hS.2.2 hd)
theorem wX4_makeKey_f18 : Cond.fieldLink RX4 18 "Confroom$Streams" "keyCount" "[I" ∈ wsX4_makeKey := by decide +kernel
theorem wX4_makeKey_f21 : Cond.fieldLink RX4 21 "Confroom$Streams" "asked" "[Z" ∈ wsX4_makeKey := by decide +kernel
theorem wX4_makeKey_f36 : Cond.fieldLink RX4 36 "Confroom$Streams" "lastKey" "[I" ∈ wsX4_makeKey := by decide +kernel
theorem wX4_makeKey_X4_u : ∀ w ∈ u_ws RX4 TX4 7, w ∈ wsX4_makeKey := by decide +kernel
set_option maxHeartbeats 4000000 in
set_option maxRecDepth 100000 in
theorem b_X4_makeKey {p : Program} {l : Launch} {e : Env} {s : State} {m : MethodId} {args : Array Value} {below : List Frame} {meth : Method} {c : Code} {Q : State → Prop} {A : Nat → Prop} {dC : Nat → ClassId} {dI : Nat → Nat → Nat} {cI cZ cG : ClassId} (hx : p.tables.exec = Jvm.exec) (hb : c.code = cX4_makeKey) (hml : c.maxLocals = 3) (hown : s.vm.findClass RX4 = some m.cls) (hts : ∀ w ∈ wsX4_makeKey, w.before args s = true) (hK : va_K (dC, dI) vwCl [(cI, .int), (cZ, .boolean), (cG, .array .int)] s) (hA : ∀ q : Nat, s.heap.size ≤ q → A q) (t0 : Nat) (t1 : Nat) (t2 : Nat) (t3 : Nat) (t4 : Nat) (t5 : Nat) (u0 : Nat) (li : Nat) (kc : Nat → Nat) (ak : Nat → Bool) (lk : Nat → Nat) (pe : Nat) (ti : Nat) (hp : pe < 6)  {H : Heap} {locs : List Loc} {ls : Array Slot} (hP : va_P (dC, dI) vwCl [(t0, .inr (4, [.ref t1, .ref t2, .ref t3, .ref t4, .ref u0, .int (nI li), .ref t5])), (t3, .inl (cI, 6, .inl (cN kc))), (t4, .inl (cZ, 6, .inl (cB ak))), (t5, .inl (cI, 6, .inl (cN lk)))] H) (hD : va_D A [(t0, .inr (4, [.ref t1, .ref t2, .ref t3, .ref t4, .ref u0, .int (nI li), .ref t5])), (t3, .inl (cI, 6, .inl (cN kc))), (t4, .inl (cZ, 6, .inl (cB ak))), (t5, .inl (cI, 6, .inl (cN lk)))]) (hS : va_S A s.heap H locs) (hl : lv_has ls 3 [(0, .ref t0), (1, .int (nI pe)), (2, .int (nI ti))]) (kret : ∀ (pcr : Nat) (H : Heap) (locs : List Loc) (ls : Array Slot) , decode cX4_makeKey pcr = .ok (.return_, 1) → va_P (dC, dI) vwCl [(t0, .inr (4, [.ref t1, .ref t2, .ref t3, .ref t4, .ref u0, .int (nI li), .ref t5])), (t3, .inl (cI, 6, .inl (cN (va_up kc pe (kc pe + 1))))), (t4, .inl (cZ, 6, .inl (cB (va_up ak pe false)))), (t5, .inl (cI, 6, .inl (cN (va_up lk pe ti))))] H → va_D A [(t0, .inr (4, [.ref t1, .ref t2, .ref t3, .ref t4, .ref u0, .int (nI li), .ref t5])), (t3, .inl (cI, 6, .inl (cN (va_up kc pe (kc pe + 1))))), (t4, .inl (cZ, 6, .inl (cB (va_up ak pe false)))), (t5, .inl (cI, 6, .inl (cN (va_up lk pe ti))))] → va_S A s.heap H locs → W p l e ({ frames := 0, cells := 0, slots := 0, locals := 0 } : Room) s m args below meth c H locs 0 0 Q (F0 m pcr ls [])) : W p l e ({ frames := 0, cells := 0, slots := 0, locals := 0 } : Room) s m args below meth c H locs 0 0 Q (F0 m 0 ls []) := by
  refine lv_aload_n hx hb dX4_makeKey_0 rfl (lv_at hl 0 rfl) ?_
  refine va_get (D := (dC, dI)) (ci := 4) (v := .ref t4) (C := RX4) (T := TX4) (N := 7) hx hb hts (wX4_makeKey_X4_u) hown hK hP 0 rfl rfl 3 (by decide) (hts (.fieldLink RX4 21 "Confroom$Streams" "asked" "[Z") (wX4_makeKey_f21)) (fun _ h9 => h9) rfl dX4_makeKey_1 ?_
  refine lv_iload_n hx hb dX4_makeKey_4 rfl (lv_at hl 1 rfl) ?_
  refine lv_iconst (v := nI 0) hx hb dX4_makeKey_5 (by decide) ?_
  refine q_sB hx hb hK hP hD hS 2 1 rfl rfl (k := pe) (x := false) (by omega) (by decide) dX4_makeKey_6 (fun H locs hP hD hS => ?_)
  have hP : va_P (dC, dI) vwCl [(t0, .inr (4, [.ref t1, .ref t2, .ref t3, .ref t4, .ref u0, .int (nI li), .ref t5])), (t3, .inl (cI, 6, .inl (cN kc))), (t4, .inl (cZ, 6, .inl (cB (va_up ak pe false)))), (t5, .inl (cI, 6, .inl (cN lk)))] H := hP
  have hD : va_D A [(t0, .inr (4, [.ref t1, .ref t2, .ref t3, .ref t4, .ref u0, .int (nI li), .ref t5])), (t3, .inl (cI, 6, .inl (cN kc))), (t4, .inl (cZ, 6, .inl (cB (va_up ak pe false)))), (t5, .inl (cI, 6, .inl (cN lk)))] := hD
  refine lv_aload_n hx hb dX4_makeKey_7 rfl (lv_at hl 0 rfl) ?_
  refine va_get (D := (dC, dI)) (ci := 4) (v := .ref t3) (C := RX4) (T := TX4) (N := 7) hx hb hts (wX4_makeKey_X4_u) hown hK hP 0 rfl rfl 2 (by decide) (hts (.fieldLink RX4 18 "Confroom$Streams" "keyCount" "[I") (wX4_makeKey_f18)) (fun _ h9 => h9) rfl dX4_makeKey_8 ?_
  refine lv_iload_n hx hb dX4_makeKey_11 rfl (lv_at hl 1 rfl) ?_
  refine lv_dup2_11 hx hb dX4_makeKey_12 rfl rfl ?_
  refine q_iN hx hb hK hP 1 0 rfl rfl (k := pe) (by omega) (by decide) dX4_makeKey_13 ?_
  refine lv_iconst (v := nI 1) hx hb dX4_makeKey_14 (by decide) ?_
  refine lv_iadd hx hb dX4_makeKey_15 (q_as (nI_add (kc pe) 1) ?_)
  refine q_sN hx hb hK hP hD hS 1 0 rfl rfl (k := pe) (x := (kc pe + 1)) (by omega) (by decide) dX4_makeKey_16 (fun H locs hP hD hS => ?_)
  have hP : va_P (dC, dI) vwCl [(t0, .inr (4, [.ref t1, .ref t2, .ref t3, .ref t4, .ref u0, .int (nI li), .ref t5])), (t3, .inl (cI, 6, .inl (cN (va_up kc pe (kc pe + 1))))), (t4, .inl (cZ, 6, .inl (cB (va_up ak pe false)))), (t5, .inl (cI, 6, .inl (cN lk)))] H := hP
  have hD : va_D A [(t0, .inr (4, [.ref t1, .ref t2, .ref t3, .ref t4, .ref u0, .int (nI li), .ref t5])), (t3, .inl (cI, 6, .inl (cN (va_up kc pe (kc pe + 1))))), (t4, .inl (cZ, 6, .inl (cB (va_up ak pe false)))), (t5, .inl (cI, 6, .inl (cN lk)))] := hD
  refine lv_aload_n hx hb dX4_makeKey_17 rfl (lv_at hl 0 rfl) ?_
  refine va_get (D := (dC, dI)) (ci := 4) (v := .ref t5) (C := RX4) (T := TX4) (N := 7) hx hb hts (wX4_makeKey_X4_u) hown hK hP 0 rfl rfl 6 (by decide) (hts (.fieldLink RX4 36 "Confroom$Streams" "lastKey" "[I") (wX4_makeKey_f36)) (fun _ h9 => h9) rfl dX4_makeKey_18 ?_
  refine lv_iload_n hx hb dX4_makeKey_21 rfl (lv_at hl 1 rfl) ?_
  refine lv_iload_n hx hb dX4_makeKey_22 rfl (lv_at hl 2 rfl) ?_
  refine q_sN hx hb hK hP hD hS 3 0 rfl rfl (k := pe) (x := ti) (by omega) (by decide) dX4_makeKey_23 (fun H locs hP hD hS => ?_)
  have hP : va_P (dC, dI) vwCl [(t0, .inr (4, [.ref t1, .ref t2, .ref t3, .ref t4, .ref u0, .int (nI li), .ref t5])), (t3, .inl (cI, 6, .inl (cN (va_up kc pe (kc pe + 1))))), (t4, .inl (cZ, 6, .inl (cB (va_up ak pe false)))), (t5, .inl (cI, 6, .inl (cN (va_up lk pe ti))))] H := hP
  have hD : va_D A [(t0, .inr (4, [.ref t1, .ref t2, .ref t3, .ref t4, .ref u0, .int (nI li), .ref t5])), (t3, .inl (cI, 6, .inl (cN (va_up kc pe (kc pe + 1))))), (t4, .inl (cZ, 6, .inl (cB (va_up ak pe false)))), (t5, .inl (cI, 6, .inl (cN (va_up lk pe ti))))] := hD
  refine kret 24 _ _ _   dX4_makeKey_24 hP hD hS

set_option maxHeartbeats 4000000 in
set_option maxRecDepth 100000 in
theorem c_X4_makeKey (l : Launch) (dC : Nat → ClassId) (dI : Nat → Nat → Nat) (cI cZ cG : ClassId) (t0 : Nat) (t1 : Nat) (t2 : Nat) (t3 : Nat) (t4 : Nat) (t5 : Nat) (u0 : Nat) (li : Nat) (kc : Nat → Nat) (ak : Nat → Bool) (lk : Nat → Nat) (pe : Nat) (ti : Nat) (sz : Nat) (hp : pe < 6) : Met l yX4_makeKey wsX4_makeKey ({ frames := 0, cells := 0, slots := 0, locals := 0 } : Room) (va_Pc [.ref t0, .int (nI pe), .int (nI ti)] (fun U => U.heap.size = sz ∧ va_P (dC, dI) vwCl [(t0, .inr (4, [.ref t1, .ref t2, .ref t3, .ref t4, .ref u0, .int (nI li), .ref t5])), (t3, .inl (cI, 6, .inl (cN kc))), (t4, .inl (cZ, 6, .inl (cB ak))), (t5, .inl (cI, 6, .inl (cN lk)))] U.heap ∧ va_K (dC, dI) vwCl [(cI, .int), (cZ, .boolean), (cG, .array .int)] U ∧ va_D (fun _ => True) [(t0, .inr (4, [.ref t1, .ref t2, .ref t3, .ref t4, .ref u0, .int (nI li), .ref t5])), (t3, .inl (cI, 6, .inl (cN kc))), (t4, .inl (cZ, 6, .inl (cB ak))), (t5, .inl (cI, 6, .inl (cN lk)))])) (va_Qv (fun (_ : Unit) => True) (fun (_ : Unit) t => va_P (dC, dI) vwCl [(t0, .inr (4, [.ref t1, .ref t2, .ref t3, .ref t4, .ref u0, .int (nI li), .ref t5])), (t3, .inl (cI, 6, .inl (cN (va_up kc pe (kc pe + 1))))), (t4, .inl (cZ, 6, .inl (cB (va_up ak pe false)))), (t5, .inl (cI, 6, .inl (cN (va_up lk pe ti))))] t.heap ∧ va_D (va_A [(t0, .inr (4, [.ref t1, .ref t2, .ref t3, .ref t4, .ref u0, .int (nI li), .ref t5])), (t3, .inl (cI, 6, .inl (cN kc))), (t4, .inl (cZ, 6, .inl (cB ak))), (t5, .inl (cI, 6, .inl (cN lk)))] sz) [(t0, .inr (4, [.ref t1, .ref t2, .ref t3, .ref t4, .ref u0, .int (nI li), .ref t5])), (t3, .inl (cI, 6, .inl (cN (va_up kc pe (kc pe + 1))))), (t4, .inl (cZ, 6, .inl (cB (va_up ak pe false)))), (t5, .inl (cI, 6, .inl (cN (va_up lk pe ti))))]) (va_A [(t0, .inr (4, [.ref t1, .ref t2, .ref t3, .ref t4, .ref u0, .int (nI li), .ref t5])), (t3, .inl (cI, 6, .inl (cN kc))), (t4, .inl (cZ, 6, .inl (cB ak))), (t5, .inl (cI, 6, .inl (cN lk)))] sz)) 0 0 (va_A [(t0, .inr (4, [.ref t1, .ref t2, .ref t3, .ref t4, .ref u0, .int (nI li), .ref t5])), (t3, .inl (cI, 6, .inl (cN kc))), (t4, .inl (cZ, 6, .inl (cB ak))), (t5, .inl (cI, 6, .inl (cN lk)))] sz) := by
  refine Met.ofW (cc := cX4_makeKey) (maxL := 3) (ret := none) (by decide) rfl ?_
  intro p e s m args below meth c s₁ B hml hv
  obtain ⟨rfl, hsz, hP, hK, hD0⟩ := hv
  have hts := atoms_spec (ws := wsX4_makeKey) B.pre
  have hown : s.vm.findClass RX4 = some m.cls := findClass_of_methodNamed B.named
  have hlocks := B.notSynchronized
  subst hsz
  have hD := hD0.self (sz := s.heap.size)
  have hA : ∀ q : Nat, s.heap.size ≤ q → va_A [(t0, .inr (4, [.ref t1, .ref t2, .ref t3, .ref t4, .ref u0, .int (nI li), .ref t5])), (t3, .inl (cI, 6, .inl (cN kc))), (t4, .inl (cZ, 6, .inl (cB ak))), (t5, .inl (cI, 6, .inl (cN lk)))] s.heap.size q := fun q h => Or.inr h
  have hl := lv_entry ([.ref t0, .int (nI pe), .int (nI ti)]) (n := 3) (Nat.le_of_ble_eq_true rfl)
  rw [lg_entry_eq]
  generalize (lg_sl ([.ref t0, .int (nI pe), .int (nI ti)]) ++ List.replicate (3 - (lg_sl ([.ref t0, .int (nI pe), .int (nI ti)])).length) Slot.unset).toArray = ls at hl ⊢
  have hl : lv_has ls 3 [(0, .ref t0), (1, .int (nI pe)), (2, .int (nI ti))] := hl
  have hx := B.exec
  have hb := B.bytes
  exact b_X4_makeKey hx hb hml hown hts hK hA t0 t1 t2 t3 t4 t5 u0 li kc ak lk pe ti hp  hP hD va_S.rf hl (fun pcr H locs ls   hd hP hD hS => W.vret hx hb B.returns (fun t ht hW => ⟨⟨(), rfl, trivial, by rw [ht]; exact hP, hD⟩, hS.F ht⟩) hS.2.2 hd)
theorem wX5_reset_f15 : Cond.fieldLink RX5 15 "Confroom$Wishes" "estimate" "[I" ∈ wsX5_reset := by decide +kernel
theorem wX5_reset_f18 : Cond.fieldLink RX5 18 "Confroom$Wishes" "pinned" "[I" ∈ wsX5_reset := by decide +kernel
theorem wX5_reset_f9 : Cond.fieldLink RX5 9 "Confroom$Wishes" "places" "[I" ∈ wsX5_reset := by decide +kernel
theorem wX5_reset_X5_u : ∀ w ∈ u_ws RX5 TX5 3, w ∈ wsX5_reset := by decide +kernel
set_option maxHeartbeats 4000000 in
set_option maxRecDepth 100000 in
theorem b_X5_reset {p : Program} {l : Launch} {e : Env} {s : State} {m : MethodId} {args : Array Value} {below : List Frame} {meth : Method} {c : Code} {Q : State → Prop} {A : Nat → Prop} {dC : Nat → ClassId} {dI : Nat → Nat → Nat} {cI cZ cG : ClassId} (hx : p.tables.exec = Jvm.exec) (hb : c.code = cX5_reset) (hml : c.maxLocals = 2) (hown : s.vm.findClass RX5 = some m.cls) (hts : ∀ w ∈ wsX5_reset, w.before args s = true) (hK : va_K (dC, dI) vwCl [(cI, .int), (cZ, .boolean), (cG, .array .int)] s) (hA : ∀ q : Nat, s.heap.size ≤ q → A q) (w0 : Nat) (w1 : Nat) (w2 : Nat) (w3 : Nat) (pl : Nat → Nat) (es : Nat → Nat) (pn : Nat → Option Nat) (pe : Nat) (hp : pe < 6)  {H : Heap} {locs : List Loc} {ls : Array Slot} (hP : va_P (dC, dI) vwCl [(w0, .inr (5, [.ref w1, .ref w2, .ref w3])), (w1, .inl (cI, 6, .inl (cN pl))), (w2, .inl (cI, 6, .inl (cN es))), (w3, .inl (cI, 6, .inl (cO pn)))] H) (hD : va_D A [(w0, .inr (5, [.ref w1, .ref w2, .ref w3])), (w1, .inl (cI, 6, .inl (cN pl))), (w2, .inl (cI, 6, .inl (cN es))), (w3, .inl (cI, 6, .inl (cO pn)))]) (hS : va_S A s.heap H locs) (hl : lv_has ls 2 [(0, .ref w0), (1, .int (nI pe))]) (kret : ∀ (pcr : Nat) (H : Heap) (locs : List Loc) (ls : Array Slot) , decode cX5_reset pcr = .ok (.return_, 1) → va_P (dC, dI) vwCl [(w0, .inr (5, [.ref w1, .ref w2, .ref w3])), (w1, .inl (cI, 6, .inl (cN (va_up pl pe 3)))), (w2, .inl (cI, 6, .inl (cN (va_up es pe 100)))), (w3, .inl (cI, 6, .inl (cO (va_up pn pe none))))] H → va_D A [(w0, .inr (5, [.ref w1, .ref w2, .ref w3])), (w1, .inl (cI, 6, .inl (cN (va_up pl pe 3)))), (w2, .inl (cI, 6, .inl (cN (va_up es pe 100)))), (w3, .inl (cI, 6, .inl (cO (va_up pn pe none))))] → va_S A s.heap H locs → W p l e ({ frames := 0, cells := 0, slots := 0, locals := 0 } : Room) s m args below meth c H locs 0 0 Q (F0 m pcr ls [])) : W p l e ({ frames := 0, cells := 0, slots := 0, locals := 0 } : Room) s m args below meth c H locs 0 0 Q (F0 m 0 ls []) := by
  refine lv_aload_n hx hb dX5_reset_0 rfl (lv_at hl 0 rfl) ?_
  refine va_get (D := (dC, dI)) (ci := 5) (v := .ref w1) (C := RX5) (T := TX5) (N := 3) hx hb hts (wX5_reset_X5_u) hown hK hP 0 rfl rfl 0 (by decide) (hts (.fieldLink RX5 9 "Confroom$Wishes" "places" "[I") (wX5_reset_f9)) (fun _ h9 => h9) rfl dX5_reset_1 ?_
  refine lv_iload_n hx hb dX5_reset_4 rfl (lv_at hl 1 rfl) ?_
  refine lv_iconst (v := nI 3) hx hb dX5_reset_5 (by decide) ?_
  refine q_sN hx hb hK hP hD hS 1 0 rfl rfl (k := pe) (x := 3) (by omega) (by decide) dX5_reset_6 (fun H locs hP hD hS => ?_)
  have hP : va_P (dC, dI) vwCl [(w0, .inr (5, [.ref w1, .ref w2, .ref w3])), (w1, .inl (cI, 6, .inl (cN (va_up pl pe 3)))), (w2, .inl (cI, 6, .inl (cN es))), (w3, .inl (cI, 6, .inl (cO pn)))] H := hP
  have hD : va_D A [(w0, .inr (5, [.ref w1, .ref w2, .ref w3])), (w1, .inl (cI, 6, .inl (cN (va_up pl pe 3)))), (w2, .inl (cI, 6, .inl (cN es))), (w3, .inl (cI, 6, .inl (cO pn)))] := hD
  refine lv_aload_n hx hb dX5_reset_7 rfl (lv_at hl 0 rfl) ?_
  refine va_get (D := (dC, dI)) (ci := 5) (v := .ref w2) (C := RX5) (T := TX5) (N := 3) hx hb hts (wX5_reset_X5_u) hown hK hP 0 rfl rfl 1 (by decide) (hts (.fieldLink RX5 15 "Confroom$Wishes" "estimate" "[I") (wX5_reset_f15)) (fun _ h9 => h9) rfl dX5_reset_8 ?_
  refine lv_iload_n hx hb dX5_reset_11 rfl (lv_at hl 1 rfl) ?_
  refine lv_bipush (v := nI 100) hx hb dX5_reset_12 (by decide) ?_
  refine q_sN hx hb hK hP hD hS 2 0 rfl rfl (k := pe) (x := 100) (by omega) (by decide) dX5_reset_14 (fun H locs hP hD hS => ?_)
  have hP : va_P (dC, dI) vwCl [(w0, .inr (5, [.ref w1, .ref w2, .ref w3])), (w1, .inl (cI, 6, .inl (cN (va_up pl pe 3)))), (w2, .inl (cI, 6, .inl (cN (va_up es pe 100)))), (w3, .inl (cI, 6, .inl (cO pn)))] H := hP
  have hD : va_D A [(w0, .inr (5, [.ref w1, .ref w2, .ref w3])), (w1, .inl (cI, 6, .inl (cN (va_up pl pe 3)))), (w2, .inl (cI, 6, .inl (cN (va_up es pe 100)))), (w3, .inl (cI, 6, .inl (cO pn)))] := hD
  refine lv_aload_n hx hb dX5_reset_15 rfl (lv_at hl 0 rfl) ?_
  refine va_get (D := (dC, dI)) (ci := 5) (v := .ref w3) (C := RX5) (T := TX5) (N := 3) hx hb hts (wX5_reset_X5_u) hown hK hP 0 rfl rfl 2 (by decide) (hts (.fieldLink RX5 18 "Confroom$Wishes" "pinned" "[I") (wX5_reset_f18)) (fun _ h9 => h9) rfl dX5_reset_16 ?_
  refine lv_iload_n hx hb dX5_reset_19 rfl (lv_at hl 1 rfl) ?_
  refine lv_iconst (v := oI none) hx hb dX5_reset_20 (by decide) ?_
  refine q_sO hx hb hK hP hD hS 3 0 rfl rfl (k := pe) (x := none) (by omega) (by decide) dX5_reset_21 (fun H locs hP hD hS => ?_)
  have hP : va_P (dC, dI) vwCl [(w0, .inr (5, [.ref w1, .ref w2, .ref w3])), (w1, .inl (cI, 6, .inl (cN (va_up pl pe 3)))), (w2, .inl (cI, 6, .inl (cN (va_up es pe 100)))), (w3, .inl (cI, 6, .inl (cO (va_up pn pe none))))] H := hP
  have hD : va_D A [(w0, .inr (5, [.ref w1, .ref w2, .ref w3])), (w1, .inl (cI, 6, .inl (cN (va_up pl pe 3)))), (w2, .inl (cI, 6, .inl (cN (va_up es pe 100)))), (w3, .inl (cI, 6, .inl (cO (va_up pn pe none))))] := hD
  refine kret 22 _ _ _   dX5_reset_22 hP hD hS

set_option maxHeartbeats 4000000 in
set_option maxRecDepth 100000 in
theorem c_X5_reset (l : Launch) (dC : Nat → ClassId) (dI : Nat → Nat → Nat) (cI cZ cG : ClassId) (w0 : Nat) (w1 : Nat) (w2 : Nat) (w3 : Nat) (pl : Nat → Nat) (es : Nat → Nat) (pn : Nat → Option Nat) (pe : Nat) (sz : Nat) (hp : pe < 6) : Met l yX5_reset wsX5_reset ({ frames := 0, cells := 0, slots := 0, locals := 0 } : Room) (va_Pc [.ref w0, .int (nI pe)] (fun U => U.heap.size = sz ∧ va_P (dC, dI) vwCl [(w0, .inr (5, [.ref w1, .ref w2, .ref w3])), (w1, .inl (cI, 6, .inl (cN pl))), (w2, .inl (cI, 6, .inl (cN es))), (w3, .inl (cI, 6, .inl (cO pn)))] U.heap ∧ va_K (dC, dI) vwCl [(cI, .int), (cZ, .boolean), (cG, .array .int)] U ∧ va_D (fun _ => True) [(w0, .inr (5, [.ref w1, .ref w2, .ref w3])), (w1, .inl (cI, 6, .inl (cN pl))), (w2, .inl (cI, 6, .inl (cN es))), (w3, .inl (cI, 6, .inl (cO pn)))])) (va_Qv (fun (_ : Unit) => True) (fun (_ : Unit) t => va_P (dC, dI) vwCl [(w0, .inr (5, [.ref w1, .ref w2, .ref w3])), (w1, .inl (cI, 6, .inl (cN (va_up pl pe 3)))), (w2, .inl (cI, 6, .inl (cN (va_up es pe 100)))), (w3, .inl (cI, 6, .inl (cO (va_up pn pe none))))] t.heap ∧ va_D (va_A [(w0, .inr (5, [.ref w1, .ref w2, .ref w3])), (w1, .inl (cI, 6, .inl (cN pl))), (w2, .inl (cI, 6, .inl (cN es))), (w3, .inl (cI, 6, .inl (cO pn)))] sz) [(w0, .inr (5, [.ref w1, .ref w2, .ref w3])), (w1, .inl (cI, 6, .inl (cN (va_up pl pe 3)))), (w2, .inl (cI, 6, .inl (cN (va_up es pe 100)))), (w3, .inl (cI, 6, .inl (cO (va_up pn pe none))))]) (va_A [(w0, .inr (5, [.ref w1, .ref w2, .ref w3])), (w1, .inl (cI, 6, .inl (cN pl))), (w2, .inl (cI, 6, .inl (cN es))), (w3, .inl (cI, 6, .inl (cO pn)))] sz)) 0 0 (va_A [(w0, .inr (5, [.ref w1, .ref w2, .ref w3])), (w1, .inl (cI, 6, .inl (cN pl))), (w2, .inl (cI, 6, .inl (cN es))), (w3, .inl (cI, 6, .inl (cO pn)))] sz) := by
  refine Met.ofW (cc := cX5_reset) (maxL := 2) (ret := none) (by decide) rfl ?_
  intro p e s m args below meth c s₁ B hml hv
  obtain ⟨rfl, hsz, hP, hK, hD0⟩ := hv
  have hts := atoms_spec (ws := wsX5_reset) B.pre
  have hown : s.vm.findClass RX5 = some m.cls := findClass_of_methodNamed B.named
  have hlocks := B.notSynchronized
  subst hsz
  have hD := hD0.self (sz := s.heap.size)
  have hA : ∀ q : Nat, s.heap.size ≤ q → va_A [(w0, .inr (5, [.ref w1, .ref w2, .ref w3])), (w1, .inl (cI, 6, .inl (cN pl))), (w2, .inl (cI, 6, .inl (cN es))), (w3, .inl (cI, 6, .inl (cO pn)))] s.heap.size q := fun q h => Or.inr h
  have hl := lv_entry ([.ref w0, .int (nI pe)]) (n := 2) (Nat.le_of_ble_eq_true rfl)
  rw [lg_entry_eq]
  generalize (lg_sl ([.ref w0, .int (nI pe)]) ++ List.replicate (2 - (lg_sl ([.ref w0, .int (nI pe)])).length) Slot.unset).toArray = ls at hl ⊢
  have hl : lv_has ls 2 [(0, .ref w0), (1, .int (nI pe))] := hl
  have hx := B.exec
  have hb := B.bytes
  exact b_X5_reset hx hb hml hown hts hK hA w0 w1 w2 w3 pl es pn pe hp  hP hD va_S.rf hl (fun pcr H locs ls   hd hP hD hS => W.vret hx hb B.returns (fun t ht hW => ⟨⟨(), rfl, trivial, by rw [ht]; exact hP, hD⟩, hS.F ht⟩) hS.2.2 hd)
theorem wX5_unpinEverywhere_f18 : Cond.fieldLink RX5 18 "Confroom$Wishes" "pinned" "[I" ∈ wsX5_unpinEverywhere := by decide +kernel
theorem wX5_unpinEverywhere_X5_u : ∀ w ∈ u_ws RX5 TX5 3, w ∈ wsX5_unpinEverywhere := by decide +kernel
set_option maxHeartbeats 4000000 in
set_option maxRecDepth 100000 in
theorem b_X5_unpinEverywhere {p : Program} {l : Launch} {e : Env} {s : State} {m : MethodId} {args : Array Value} {below : List Frame} {meth : Method} {c : Code} {Q : State → Prop} {A : Nat → Prop} {dC : Nat → ClassId} {dI : Nat → Nat → Nat} {cI cZ cG : ClassId} (hx : p.tables.exec = Jvm.exec) (hb : c.code = cX5_unpinEverywhere) (hml : c.maxLocals = 3) (hown : s.vm.findClass RX5 = some m.cls) (hts : ∀ w ∈ wsX5_unpinEverywhere, w.before args s = true) (hK : va_K (dC, dI) vwCl [(cI, .int), (cZ, .boolean), (cG, .array .int)] s) (hA : ∀ q : Nat, s.heap.size ≤ q → A q) (w0 : Nat) (w1 : Nat) (w2 : Nat) (w3 : Nat) (pn : Nat → Option Nat) (pe : Nat) (hp : pe < 6) (hpn : ∀ r j, pn r = some j → j < 6)  {H : Heap} {locs : List Loc} {ls : Array Slot} (hP : va_P (dC, dI) vwCl [(w0, .inr (5, [.ref w1, .ref w2, .ref w3])), (w3, .inl (cI, 6, .inl (cO pn)))] H) (hD : va_D A [(w0, .inr (5, [.ref w1, .ref w2, .ref w3])), (w3, .inl (cI, 6, .inl (cO pn)))]) (hS : va_S A s.heap H locs) (hl : lv_has ls 3 [(0, .ref w0), (1, .int (nI pe))]) (kret : ∀ (pcr : Nat) (H : Heap) (locs : List Loc) (ls : Array Slot) , decode cX5_unpinEverywhere pcr = .ok (.return_, 1) → va_P (dC, dI) vwCl [(w0, .inr (5, [.ref w1, .ref w2, .ref w3])), (w3, .inl (cI, 6, .inl (cO (unpinF pn pe 6))))] H → va_D A [(w0, .inr (5, [.ref w1, .ref w2, .ref w3])), (w3, .inl (cI, 6, .inl (cO (unpinF pn pe 6))))] → va_S A s.heap H locs → W p l e ({ frames := 0, cells := 0, slots := 0, locals := 0 } : Room) s m args below meth c H locs 0 0 Q (F0 m pcr ls [])) : W p l e ({ frames := 0, cells := 0, slots := 0, locals := 0 } : Room) s m args below meth c H locs 0 0 Q (F0 m 0 ls []) := by
  refine lv_iconst (v := nI 0) hx hb dX5_unpinEverywhere_0 (by decide) ?_
  refine lv_istore_n (lv' := [(2, .int (nI 0)), (0, .ref w0), (1, .int (nI pe))]) hx hb dX5_unpinEverywhere_1 rfl hl (by decide) rfl (fun ls hl => ?_)
  have L2 : ∀ (n : Nat) (i : Nat) (pn2 : Nat → Option Nat) (H : Heap) (locs : List Loc) (ls : Array Slot), (i ≤ 6) → (pn2 = unpinF pn pe i) → (6 - i < n) → va_P (dC, dI) vwCl [(w0, .inr (5, [.ref w1, .ref w2, .ref w3])), (w3, .inl (cI, 6, .inl (cO pn2)))] H → va_D A [(w0, .inr (5, [.ref w1, .ref w2, .ref w3])), (w3, .inl (cI, 6, .inl (cO pn2)))] → va_S A s.heap H locs → lv_has ls 3 [(0, .ref w0), (1, .int (nI pe)), (2, .int (nI i))] → W p l e ({ frames := 0, cells := 0, slots := 0, locals := 0 } : Room) s m args below meth c H locs 0 0 Q (F0 m 2 ls []) := by
    intro n
    induction n with
    | zero =>
      intro i pn2 H locs ls hi hh hm
      exact absurd hm (Nat.not_lt_zero _)
    | succ n ih2 =>
      intro i pn2 H locs ls hi hh hm hP hD hS hl
      refine lv_iload_n hx hb dX5_unpinEverywhere_2 rfl (lv_at hl 2 rfl) ?_
      refine lv_bipush (v := nI 6) hx hb dX5_unpinEverywhere_3 (by decide) ?_
      refine q_ge (tgt := 31) hx hb (a := i) (b := 6) (by omega) (by omega) dX5_unpinEverywhere_5 (by decide) (fun c5 => ?_) (fun c5 => ?_)
      · have ec1 : unpinF pn pe 6 = pn2 := by
          rw [hh, show i = 6 by omega]
        have hP : va_P (dC, dI) vwCl [(w0, .inr (5, [.ref w1, .ref w2, .ref w3])), (w3, .inl (cI, 6, .inl (cO (unpinF pn pe 6))))] H := by
          rw [ec1]
          exact hP
        have hD : va_D A [(w0, .inr (5, [.ref w1, .ref w2, .ref w3])), (w3, .inl (cI, 6, .inl (cO (unpinF pn pe 6))))] := by
          rw [ec1]
          exact hD
        refine kret 31 _ _ _   dX5_unpinEverywhere_31 hP hD hS
      · refine lv_aload_n hx hb dX5_unpinEverywhere_8 rfl (lv_at hl 0 rfl) ?_
        refine va_get (D := (dC, dI)) (ci := 5) (v := .ref w3) (C := RX5) (T := TX5) (N := 3) hx hb hts (wX5_unpinEverywhere_X5_u) hown hK hP 0 rfl rfl 2 (by decide) (hts (.fieldLink RX5 18 "Confroom$Wishes" "pinned" "[I") (wX5_unpinEverywhere_f18)) (fun _ h9 => h9) rfl dX5_unpinEverywhere_9 ?_
        refine lv_iload_n hx hb dX5_unpinEverywhere_12 rfl (lv_at hl 2 rfl) ?_
        refine q_iO hx hb hK hP 1 0 rfl rfl (k := i) (by omega) (by decide) dX5_unpinEverywhere_13 ?_
        have hpl := unpinF_lt hpn pe i
        rw [← hh] at hpl
        refine lv_iload_n hx hb dX5_unpinEverywhere_14 rfl (lv_at hl 1 rfl) ?_
        refine q_neON (tgt := 25) hx hb (o := (pn2 i)) (k := pe) (fun j hj => Nat.lt_trans (hpl _ j hj) (by decide)) (by omega) dX5_unpinEverywhere_15 (by decide) (fun c15 => ?_) (fun c15 => ?_)
        · refine lv_iinc (v := nI (i + 1)) (lv' := [(2, .int (nI (i + 1))), (0, .ref w0), (1, .int (nI pe))]) hx hb dX5_unpinEverywhere_25 hl (k := 2) rfl (q_inc i 1) (by decide) rfl (fun ls hl => ?_)
          refine lv_goto (tgt := 2) hx hb dX5_unpinEverywhere_28 (by decide) ?_
          refine ih2 (i + 1) pn2 _ _ _ ?_ ?_ (by omega) hP hD hS (lv_sub hl [1, 2, 0] rfl)
          · omega
          · subst hh
            first | exact unpinF_yes c15 | exact unpinF_no c15
        · refine lv_aload_n hx hb dX5_unpinEverywhere_18 rfl (lv_at hl 0 rfl) ?_
          refine va_get (D := (dC, dI)) (ci := 5) (v := .ref w3) (C := RX5) (T := TX5) (N := 3) hx hb hts (wX5_unpinEverywhere_X5_u) hown hK hP 0 rfl rfl 2 (by decide) (hts (.fieldLink RX5 18 "Confroom$Wishes" "pinned" "[I") (wX5_unpinEverywhere_f18)) (fun _ h9 => h9) rfl dX5_unpinEverywhere_19 ?_
          refine lv_iload_n hx hb dX5_unpinEverywhere_22 rfl (lv_at hl 2 rfl) ?_
          refine lv_iconst (v := oI none) hx hb dX5_unpinEverywhere_23 (by decide) ?_
          refine q_sO hx hb hK hP hD hS 1 0 rfl rfl (k := i) (x := none) (by omega) (by decide) dX5_unpinEverywhere_24 (fun H locs hP hD hS => ?_)
          have hP : va_P (dC, dI) vwCl [(w0, .inr (5, [.ref w1, .ref w2, .ref w3])), (w3, .inl (cI, 6, .inl (cO (va_up pn2 i none))))] H := hP
          have hD : va_D A [(w0, .inr (5, [.ref w1, .ref w2, .ref w3])), (w3, .inl (cI, 6, .inl (cO (va_up pn2 i none))))] := hD
          refine lv_iinc (v := nI (i + 1)) (lv' := [(2, .int (nI (i + 1))), (0, .ref w0), (1, .int (nI pe))]) hx hb dX5_unpinEverywhere_25 hl (k := 2) rfl (q_inc i 1) (by decide) rfl (fun ls hl => ?_)
          refine lv_goto (tgt := 2) hx hb dX5_unpinEverywhere_28 (by decide) ?_
          refine ih2 (i + 1) (va_up pn2 i none) _ _ _ ?_ ?_ (by omega) hP hD hS (lv_sub hl [1, 2, 0] rfl)
          · omega
          · subst hh
            first | exact unpinF_yes c15 | exact unpinF_no c15
  refine L2 _ 0 pn _ _ _ ?_ ?_ (Nat.lt_succ_self _) hP hD hS (lv_sub hl [1, 2, 0] rfl)
  · omega
  · exact unpinF_0 pn pe

set_option maxHeartbeats 4000000 in
set_option maxRecDepth 100000 in
theorem c_X5_unpinEverywhere (l : Launch) (dC : Nat → ClassId) (dI : Nat → Nat → Nat) (cI cZ cG : ClassId) (w0 : Nat) (w1 : Nat) (w2 : Nat) (w3 : Nat) (pn : Nat → Option Nat) (pe : Nat) (sz : Nat) (hp : pe < 6) (hpn : ∀ r j, pn r = some j → j < 6) : Met l yX5_unpinEverywhere wsX5_unpinEverywhere ({ frames := 0, cells := 0, slots := 0, locals := 0 } : Room) (va_Pc [.ref w0, .int (nI pe)] (fun U => U.heap.size = sz ∧ va_P (dC, dI) vwCl [(w0, .inr (5, [.ref w1, .ref w2, .ref w3])), (w3, .inl (cI, 6, .inl (cO pn)))] U.heap ∧ va_K (dC, dI) vwCl [(cI, .int), (cZ, .boolean), (cG, .array .int)] U ∧ va_D (fun _ => True) [(w0, .inr (5, [.ref w1, .ref w2, .ref w3])), (w3, .inl (cI, 6, .inl (cO pn)))])) (va_Qv (fun (_ : Unit) => True) (fun (_ : Unit) t => va_P (dC, dI) vwCl [(w0, .inr (5, [.ref w1, .ref w2, .ref w3])), (w3, .inl (cI, 6, .inl (cO (unpinF pn pe 6))))] t.heap ∧ va_D (va_A [(w0, .inr (5, [.ref w1, .ref w2, .ref w3])), (w3, .inl (cI, 6, .inl (cO pn)))] sz) [(w0, .inr (5, [.ref w1, .ref w2, .ref w3])), (w3, .inl (cI, 6, .inl (cO (unpinF pn pe 6))))]) (va_A [(w0, .inr (5, [.ref w1, .ref w2, .ref w3])), (w3, .inl (cI, 6, .inl (cO pn)))] sz)) 0 0 (va_A [(w0, .inr (5, [.ref w1, .ref w2, .ref w3])), (w3, .inl (cI, 6, .inl (cO pn)))] sz) := by
  refine Met.ofW (cc := cX5_unpinEverywhere) (maxL := 3) (ret := none) (by decide) rfl ?_
  intro p e s m args below meth c s₁ B hml hv
  obtain ⟨rfl, hsz, hP, hK, hD0⟩ := hv
  have hts := atoms_spec (ws := wsX5_unpinEverywhere) B.pre
  have hown : s.vm.findClass RX5 = some m.cls := findClass_of_methodNamed B.named
  have hlocks := B.notSynchronized
  subst hsz
  have hD := hD0.self (sz := s.heap.size)
  have hA : ∀ q : Nat, s.heap.size ≤ q → va_A [(w0, .inr (5, [.ref w1, .ref w2, .ref w3])), (w3, .inl (cI, 6, .inl (cO pn)))] s.heap.size q := fun q h => Or.inr h
  have hl := lv_entry ([.ref w0, .int (nI pe)]) (n := 3) (Nat.le_of_ble_eq_true rfl)
  rw [lg_entry_eq]
  generalize (lg_sl ([.ref w0, .int (nI pe)]) ++ List.replicate (3 - (lg_sl ([.ref w0, .int (nI pe)])).length) Slot.unset).toArray = ls at hl ⊢
  have hl : lv_has ls 3 [(0, .ref w0), (1, .int (nI pe))] := hl
  have hx := B.exec
  have hb := B.bytes
  exact b_X5_unpinEverywhere hx hb hml hown hts hK hA w0 w1 w2 w3 pn pe hp hpn  hP hD va_S.rf hl (fun pcr H locs ls   hd hP hD hS => W.vret hx hb B.returns (fun t ht hW => ⟨⟨(), rfl, trivial, by rw [ht]; exact hP, hD⟩, hS.F ht⟩) hS.2.2 hd)
