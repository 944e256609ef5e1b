theorem wX6_needPerson_f10 : Cond.fieldLink RX6 10 "Confroom" "floor" "LConfroom$Floor;" ∈ wsX6_needPerson := by decide +kernel
theorem wX6_needPerson_X6_u : ∀ w ∈ u_ws RX6 TX6 7, w ∈ wsX6_needPerson := by decide +kernel
set_option maxHeartbeats 4000000 in
set_option maxRecDepth 100000 in
theorem b_X6_needPerson {p : Program} {l : Launch} {e : Env} {s : State} {m : MethodId} {args : Array Value} {below : List Frame} {meth : Method} {c : Code} {Q : State → Prop} {A : Nat → Prop} {dC : Nat → ClassId} {dI : Nat → Nat → Nat} {cI cZ cG : ClassId} (hx : p.tables.exec = Jvm.exec) (hb : c.code = cX6_needPerson) (hml : c.maxLocals = 2) (hown : s.vm.findClass RX6 = some m.cls) (hts : ∀ w ∈ wsX6_needPerson, w.before args s = true) (hK : va_K (dC, dI) vwCl [(cI, .int), (cZ, .boolean), (cG, .array .int)] s) (hA : ∀ q : Nat, s.heap.size ≤ q → A q) (c0 : Nat) (f0 : Nat) (t0 : Nat) (w0 : Nat) (v0 : Nat) (g0 : Nat) (k0 : Nat) (ck : Nat) (f1 : Nat) (f2 : Nat) (f3 : Nat) (s0 : Nat) (ld : Option Nat) (ho : Nat) (lo : Option Nat) (ls1 : Nat) (he : Nat → Bool) (pe : Nat) (hp : pe < 6) (hh : he pe = true)  {H : Heap} {locs : List Loc} {ls : Array Slot} (hP : va_P (dC, dI) vwCl [(c0, .inr (6, [.ref f0, .ref t0, .ref w0, .ref v0, .ref g0, .ref k0, .int (nI ck)])), (f0, .inr (0, [.ref f1, .ref f2, .ref f3, .ref s0, .int (oI ld), .int (nI ho), .int (oI lo), .int (nI ls1)])), (f1, .inl (cZ, 6, .inl (cB he)))] H) (hD : va_D A [(c0, .inr (6, [.ref f0, .ref t0, .ref w0, .ref v0, .ref g0, .ref k0, .int (nI ck)])), (f0, .inr (0, [.ref f1, .ref f2, .ref f3, .ref s0, .int (oI ld), .int (nI ho), .int (oI lo), .int (nI ls1)])), (f1, .inl (cZ, 6, .inl (cB he)))]) (hS : va_S A s.heap H locs) (hl : lv_has ls 2 [(0, .ref c0), (1, .int (nI pe))]) (kret : ∀ (pcr : Nat) (H : Heap) (locs : List Loc) (ls : Array Slot) , decode cX6_needPerson pcr = .ok (.return_, 1) → va_P (dC, dI) vwCl [(c0, .inr (6, [.ref f0, .ref t0, .ref w0, .ref v0, .ref g0, .ref k0, .int (nI ck)])), (f0, .inr (0, [.ref f1, .ref f2, .ref f3, .ref s0, .int (oI ld), .int (nI ho), .int (oI lo), .int (nI ls1)])), (f1, .inl (cZ, 6, .inl (cB he)))] H → va_D A [(c0, .inr (6, [.ref f0, .ref t0, .ref w0, .ref v0, .ref g0, .ref k0, .int (nI ck)])), (f0, .inr (0, [.ref f1, .ref f2, .ref f3, .ref s0, .int (oI ld), .int (nI ho), .int (oI lo), .int (nI ls1)])), (f1, .inl (cZ, 6, .inl (cB he)))] → va_S A s.heap H locs → W p l e ({ frames := 6, cells := 0, slots := 0, locals := 90 } : Room) s m args below meth c H locs 0 0 Q (F0 m pcr ls [])) : W p l e ({ frames := 6, cells := 0, slots := 0, locals := 90 } : Room) s m args below meth c H locs 0 0 Q (F0 m 0 ls []) := by
  refine lv_aload_n hx hb dX6_needPerson_0 rfl (lv_at hl 0 rfl) ?_
  refine va_get (D := (dC, dI)) (ci := 6) (v := .ref f0) (C := RX6) (T := TX6) (N := 7) hx hb hts (wX6_needPerson_X6_u) hown hK hP 0 rfl rfl 0 (by decide) (hts (.fieldLink RX6 10 "Confroom" "floor" "LConfroom$Floor;") (wX6_needPerson_f10)) (fun _ h9 => h9) rfl dX6_needPerson_1 ?_
  refine lv_iload_n hx hb dX6_needPerson_4 rfl (lv_at hl 1 rfl) ?_
  have hPc := hP.sub (ws' := [(f0, .inr (0, [.ref f1, .ref f2, .ref f3, .ref s0, .int (oI ld), .int (nI ho), .int (oI lo), .int (nI ls1)])), (f1, .inl (cZ, 6, .inl (cB he)))]) [1, 2] rfl
  have hDc := hD.sub (ws' := [(f0, .inr (0, [.ref f1, .ref f2, .ref f3, .ref s0, .int (oI ld), .int (nI ho), .int (oI lo), .int (nI ls1)])), (f1, .inl (cZ, 6, .inl (cB he)))]) [1, 2] (by decide) rfl
  have hFc := va_free (wc := [(f0, .inr (0, [.ref f1, .ref f2, .ref f3, .ref s0, .int (oI ld), .int (nI ho), .int (oI lo), .int (nI ls1)])), (f1, .inl (cZ, 6, .inl (cB he)))]) hD hS hA [1, 2] rfl
  refine va_calli (va_runV (As := [.int (nI pe)]) (rest := []) ⟨hx, hb, hml, hown, hts⟩ (c_X0_isHere l dC dI cI cZ cG f0 f1 f2 f3 s0 ld ho lo ls1 he (nI pe) H.size ) (cwV 1 hts gX6_needPerson_X0_isHere rfl rfl rfl (by decide +kernel) ⟨Nat.le_of_ble_eq_true rfl, Nat.le_of_ble_eq_true rfl⟩) ⟨fun a U g mk q => q_blind q, va_recv hK hPc (ci := 0) (q0 := 0) rfl rfl, fun U hU hW => ⟨rfl, by rw [hU], by rw [hU]; exact hPc, va_K.moved hW.alike hK, hDc.weaken (fun _ _ _ _ => trivial)⟩⟩ rfl rfl hl.1 rfl (lv_room (Nat.le_of_ble_eq_true rfl)) dX6_needPerson_5 ⟨by decide, by decide⟩) hS (fun q _ h => hFc q h) hFc (fun rv u t H1 locs ht hvm hw hB hz1 hk1 hS => ?_)
  obtain ⟨  hr1, hP1, hD1⟩ := hB
  rw [ht] at hP1
  subst hw
  subst hr1
  obtain ⟨hP, hD⟩ := va_join (wr := [(c0, .inr (6, [.ref f0, .ref t0, .ref w0, .ref v0, .ref g0, .ref k0, .int (nI ck)]))]) (w1 := [(f0, .inr (0, [.ref f1, .ref f2, .ref f3, .ref s0, .int (oI ld), .int (nI ho), .int (oI lo), .int (nI ls1)])), (f1, .inl (cZ, 6, .inl (cB he)))]) hP hD [1, 2] [0] rfl rfl (by decide) (by decide) hk1 hFc hP1 hD1
  generalize H1 = H at hP hS ⊢
  have hP := hP.sub (ws' := [(c0, .inr (6, [.ref f0, .ref t0, .ref w0, .ref v0, .ref g0, .ref k0, .int (nI ck)])), (f0, .inr (0, [.ref f1, .ref f2, .ref f3, .ref s0, .int (oI ld), .int (nI ho), .int (oI lo), .int (nI ls1)])), (f1, .inl (cZ, 6, .inl (cB he)))]) [0, 1, 2] rfl
  have hD := hD.sub (ws' := [(c0, .inr (6, [.ref f0, .ref t0, .ref w0, .ref v0, .ref g0, .ref k0, .int (nI ck)])), (f0, .inr (0, [.ref f1, .ref f2, .ref f3, .ref s0, .int (oI ld), .int (nI ho), .int (oI lo), .int (nI ls1)])), (f1, .inl (cZ, 6, .inl (cB he)))]) [0, 1, 2] (by decide) rfl
  refine q_zne (tgt := 21) hx hb (b := (isP he (nI pe))) dX6_needPerson_8 (by decide) (fun c8 => ?_) (fun c8 => ?_)
  · refine kret 21 _ _ _   dX6_needPerson_21 hP hD hS
  · exact absurd ((isP_nI hp).trans hh) (by rw [c8]; decide)

set_option maxHeartbeats 4000000 in
set_option maxRecDepth 100000 in
theorem c_X6_needPerson (l : Launch) (dC : Nat → ClassId) (dI : Nat → Nat → Nat) (cI cZ cG : ClassId) (c0 : Nat) (f0 : Nat) (t0 : Nat) (w0 : Nat) (v0 : Nat) (g0 : Nat) (k0 : Nat) (ck : Nat) (f1 : Nat) (f2 : Nat) (f3 : Nat) (s0 : Nat) (ld : Option Nat) (ho : Nat) (lo : Option Nat) (ls1 : Nat) (he : Nat → Bool) (pe : Nat) (sz : Nat) (hp : pe < 6) (hh : he pe = true) : Met l yX6_needPerson wsX6_needPerson ({ frames := 6, cells := 0, slots := 0, locals := 90 } : Room) (va_Pc [.ref c0, .int (nI pe)] (fun U => U.heap.size = sz ∧ va_P (dC, dI) vwCl [(c0, .inr (6, [.ref f0, .ref t0, .ref w0, .ref v0, .ref g0, .ref k0, .int (nI ck)])), (f0, .inr (0, [.ref f1, .ref f2, .ref f3, .ref s0, .int (oI ld), .int (nI ho), .int (oI lo), .int (nI ls1)])), (f1, .inl (cZ, 6, .inl (cB he)))] U.heap ∧ va_K (dC, dI) vwCl [(cI, .int), (cZ, .boolean), (cG, .array .int)] U ∧ va_D (fun _ => True) [(c0, .inr (6, [.ref f0, .ref t0, .ref w0, .ref v0, .ref g0, .ref k0, .int (nI ck)])), (f0, .inr (0, [.ref f1, .ref f2, .ref f3, .ref s0, .int (oI ld), .int (nI ho), .int (oI lo), .int (nI ls1)])), (f1, .inl (cZ, 6, .inl (cB he)))])) (va_Qv (fun (_ : Unit) => True) (fun (_ : Unit) t => va_P (dC, dI) vwCl [(c0, .inr (6, [.ref f0, .ref t0, .ref w0, .ref v0, .ref g0, .ref k0, .int (nI ck)])), (f0, .inr (0, [.ref f1, .ref f2, .ref f3, .ref s0, .int (oI ld), .int (nI ho), .int (oI lo), .int (nI ls1)])), (f1, .inl (cZ, 6, .inl (cB he)))] t.heap ∧ va_D (va_A [(c0, .inr (6, [.ref f0, .ref t0, .ref w0, .ref v0, .ref g0, .ref k0, .int (nI ck)])), (f0, .inr (0, [.ref f1, .ref f2, .ref f3, .ref s0, .int (oI ld), .int (nI ho), .int (oI lo), .int (nI ls1)])), (f1, .inl (cZ, 6, .inl (cB he)))] sz) [(c0, .inr (6, [.ref f0, .ref t0, .ref w0, .ref v0, .ref g0, .ref k0, .int (nI ck)])), (f0, .inr (0, [.ref f1, .ref f2, .ref f3, .ref s0, .int (oI ld), .int (nI ho), .int (oI lo), .int (nI ls1)])), (f1, .inl (cZ, 6, .inl (cB he)))]) (va_A [(c0, .inr (6, [.ref f0, .ref t0, .ref w0, .ref v0, .ref g0, .ref k0, .int (nI ck)])), (f0, .inr (0, [.ref f1, .ref f2, .ref f3, .ref s0, .int (oI ld), .int (nI ho), .int (oI lo), .int (nI ls1)])), (f1, .inl (cZ, 6, .inl (cB he)))] sz)) 0 0 (va_A [(c0, .inr (6, [.ref f0, .ref t0, .ref w0, .ref v0, .ref g0, .ref k0, .int (nI ck)])), (f0, .inr (0, [.ref f1, .ref f2, .ref f3, .ref s0, .int (oI ld), .int (nI ho), .int (oI lo), .int (nI ls1)])), (f1, .inl (cZ, 6, .inl (cB he)))] sz) := by
  refine Met.ofW (cc := cX6_needPerson) (maxL := 2) (ret := none) (by decide) rfl ?_
  intro p e s m args below meth c s₁ B hml hv
  obtain ⟨rfl, hsz, hP, hK, hD0⟩ := hv
  have hts := atoms_spec (ws := wsX6_needPerson) B.pre
  have hown : s.vm.findClass RX6 = some m.cls := findClass_of_methodNamed B.named
  have hlocks := B.notSynchronized
  subst hsz
  have hD := hD0.self (sz := s.heap.size)
  have hA : ∀ q : Nat, s.heap.size ≤ q → va_A [(c0, .inr (6, [.ref f0, .ref t0, .ref w0, .ref v0, .ref g0, .ref k0, .int (nI ck)])), (f0, .inr (0, [.ref f1, .ref f2, .ref f3, .ref s0, .int (oI ld), .int (nI ho), .int (oI lo), .int (nI ls1)])), (f1, .inl (cZ, 6, .inl (cB he)))] s.heap.size q := fun q h => Or.inr h
  have hl := lv_entry ([.ref c0, .int (nI pe)]) (n := 2) (Nat.le_of_ble_eq_true rfl)
  rw [lg_entry_eq]
  generalize (lg_sl ([.ref c0, .int (nI pe)]) ++ List.replicate (2 - (lg_sl ([.ref c0, .int (nI pe)])).length) Slot.unset).toArray = ls at hl ⊢
  have hl : lv_has ls 2 [(0, .ref c0), (1, .int (nI pe))] := hl
  have hx := B.exec
  have hb := B.bytes
  exact b_X6_needPerson hx hb hml hown hts hK hA c0 f0 t0 w0 v0 g0 k0 ck f1 f2 f3 s0 ld ho lo ls1 he pe hp hh  hP hD va_S.rf hl (fun pcr H locs ls   hd hP hD hS => W.vret hx hb B.returns (fun t ht hW => ⟨⟨(), rfl, trivial, by rw [ht]; exact hP, hD⟩, hS.F ht⟩) hS.2.2 hd)
theorem wX6_needStream_f182 : Cond.fieldLink RX6 182 "Confroom$Streams" "published" "LConfroom$Line;" ∈ wsX6_needStream := by decide +kernel
theorem wX6_needStream_f19 : Cond.fieldLink RX6 19 "Confroom" "streams" "LConfroom$Streams;" ∈ wsX6_needStream := by decide +kernel
theorem wX6_needStream_X4_u : ∀ w ∈ u_ws RX4 TX4 7, w ∈ wsX6_needStream := by decide +kernel
theorem wX6_needStream_X6_u : ∀ w ∈ u_ws RX6 TX6 7, w ∈ wsX6_needStream := by decide +kernel
set_option maxHeartbeats 4000000 in
set_option maxRecDepth 100000 in
theorem b_X6_needStream {p : Program} {l : Launch} {e : Env} {s : State} {m : MethodId} {args : Array Value} {below : List Frame} {meth : Method} {c : Code} {Q : State → Prop} {A : Nat → Prop} {dC : Nat → ClassId} {dI : Nat → Nat → Nat} {cI cZ cG : ClassId} (hx : p.tables.exec = Jvm.exec) (hb : c.code = cX6_needStream) (hml : c.maxLocals = 2) (hown : s.vm.findClass RX6 = some m.cls) (hts : ∀ w ∈ wsX6_needStream, w.before args s = true) (hK : va_K (dC, dI) vwCl [(cI, .int), (cZ, .boolean), (cG, .array .int)] s) (hA : ∀ q : Nat, s.heap.size ≤ q → A q) (c0 : Nat) (f0 : Nat) (t0 : Nat) (w0 : Nat) (v0 : Nat) (g0 : Nat) (k0 : Nat) (ck : Nat) (t1 : Nat) (t2 : Nat) (t3 : Nat) (t4 : Nat) (t5 : Nat) (u0 : Nat) (li : Nat) (u1 : Nat) (pur : Nat → Nat) (pu : List Nat) (pe : Nat) (hp : pe < 6) (hpu : lrep pur pu) (hct : pu.contains pe = true)  {H : Heap} {locs : List Loc} {ls : Array Slot} (hP : va_P (dC, dI) vwCl [(c0, .inr (6, [.ref f0, .ref t0, .ref w0, .ref v0, .ref g0, .ref k0, .int (nI ck)])), (t0, .inr (4, [.ref t1, .ref t2, .ref t3, .ref t4, .ref u0, .int (nI li), .ref t5])), (u0, .inr (1, [.ref u1, .int (nI pu.length)])), (u1, .inl (cI, 6, .inl (cN pur)))] H) (hD : va_D A [(c0, .inr (6, [.ref f0, .ref t0, .ref w0, .ref v0, .ref g0, .ref k0, .int (nI ck)])), (t0, .inr (4, [.ref t1, .ref t2, .ref t3, .ref t4, .ref u0, .int (nI li), .ref t5])), (u0, .inr (1, [.ref u1, .int (nI pu.length)])), (u1, .inl (cI, 6, .inl (cN pur)))]) (hS : va_S A s.heap H locs) (hl : lv_has ls 2 [(0, .ref c0), (1, .int (nI pe))]) (kret : ∀ (pcr : Nat) (H : Heap) (locs : List Loc) (ls : Array Slot) , decode cX6_needStream pcr = .ok (.return_, 1) → va_P (dC, dI) vwCl [(c0, .inr (6, [.ref f0, .ref t0, .ref w0, .ref v0, .ref g0, .ref k0, .int (nI ck)])), (t0, .inr (4, [.ref t1, .ref t2, .ref t3, .ref t4, .ref u0, .int (nI li), .ref t5])), (u0, .inr (1, [.ref u1, .int (nI pu.length)])), (u1, .inl (cI, 6, .inl (cN pur)))] H → va_D A [(c0, .inr (6, [.ref f0, .ref t0, .ref w0, .ref v0, .ref g0, .ref k0, .int (nI ck)])), (t0, .inr (4, [.ref t1, .ref t2, .ref t3, .ref t4, .ref u0, .int (nI li), .ref t5])), (u0, .inr (1, [.ref u1, .int (nI pu.length)])), (u1, .inl (cI, 6, .inl (cN pur)))] → va_S A s.heap H locs → W p l e ({ frames := 6, cells := 0, slots := 0, locals := 90 } : Room) s m args below meth c H locs 0 0 Q (F0 m pcr ls [])) : W p l e ({ frames := 6, cells := 0, slots := 0, locals := 90 } : Room) s m args below meth c H locs 0 0 Q (F0 m 0 ls []) := by
  refine lv_aload_n hx hb dX6_needStream_0 rfl (lv_at hl 0 rfl) ?_
  refine va_get (D := (dC, dI)) (ci := 6) (v := .ref t0) (C := RX6) (T := TX6) (N := 7) hx hb hts (wX6_needStream_X6_u) hown hK hP 0 rfl rfl 1 (by decide) (hts (.fieldLink RX6 19 "Confroom" "streams" "LConfroom$Streams;") (wX6_needStream_f19)) (fun _ h9 => h9) rfl dX6_needStream_1 ?_
  refine va_get (D := (dC, dI)) (ci := 4) (v := .ref u0) (C := RX4) (T := TX4) (N := 7) hx hb hts (wX6_needStream_X4_u) hown hK hP 1 rfl rfl 4 (by decide) (hts (.fieldLink RX6 182 "Confroom$Streams" "published" "LConfroom$Line;") (wX6_needStream_f182)) (fun _ h9 => h9) rfl dX6_needStream_4 ?_
  refine lv_iload_n hx hb dX6_needStream_7 rfl (lv_at hl 1 rfl) ?_
  have hPc := hP.sub (ws' := [(u0, .inr (1, [.ref u1, .int (nI pu.length)])), (u1, .inl (cI, 6, .inl (cN pur)))]) [2, 3] rfl
  have hDc := hD.sub (ws' := [(u0, .inr (1, [.ref u1, .int (nI pu.length)])), (u1, .inl (cI, 6, .inl (cN pur)))]) [2, 3] (by decide) rfl
  have hFc := va_free (wc := [(u0, .inr (1, [.ref u1, .int (nI pu.length)])), (u1, .inl (cI, 6, .inl (cN pur)))]) hD hS hA [2, 3] rfl
  have hq1_0 : lrep pur pu := by
    exact hpu
  have hq1_1 : pe < 2147483648 := by
    first | assumption | omega
  refine va_calli (va_runV (As := [.int (nI pe)]) (rest := []) ⟨hx, hb, hml, hown, hts⟩ (c_X1_holds l dC dI cI cZ cG u0 u1 pur pu pe H.size hq1_0 hq1_1) (cwV 1 hts gX6_needStream_X1_holds rfl rfl rfl (by decide +kernel) ⟨Nat.le_of_ble_eq_true rfl, Nat.le_of_ble_eq_true rfl⟩) ⟨fun a U g mk q => q_blind q, va_recv hK hPc (ci := 1) (q0 := 0) rfl rfl, fun U hU hW => ⟨rfl, by rw [hU], by rw [hU]; exact hPc, va_K.moved hW.alike hK, hDc.weaken (fun _ _ _ _ => trivial)⟩⟩ rfl rfl hl.1 rfl (lv_room (Nat.le_of_ble_eq_true rfl)) dX6_needStream_8 ⟨by decide, by decide⟩) hS (fun q _ h => hFc q h) hFc (fun rv u t H1 locs ht hvm hw hB hz1 hk1 hS => ?_)
  obtain ⟨  hr1, hP1, hD1⟩ := hB
  rw [ht] at hP1
  subst hw
  subst hr1
  obtain ⟨hP, hD⟩ := va_join (wr := [(c0, .inr (6, [.ref f0, .ref t0, .ref w0, .ref v0, .ref g0, .ref k0, .int (nI ck)])), (t0, .inr (4, [.ref t1, .ref t2, .ref t3, .ref t4, .ref u0, .int (nI li), .ref t5]))]) (w1 := [(u0, .inr (1, [.ref u1, .int (nI pu.length)])), (u1, .inl (cI, 6, .inl (cN pur)))]) hP hD [2, 3] [0, 1] rfl rfl (by decide) (by decide) hk1 hFc hP1 hD1
  generalize H1 = H at hP hS ⊢
  have hP := hP.sub (ws' := [(c0, .inr (6, [.ref f0, .ref t0, .ref w0, .ref v0, .ref g0, .ref k0, .int (nI ck)])), (t0, .inr (4, [.ref t1, .ref t2, .ref t3, .ref t4, .ref u0, .int (nI li), .ref t5])), (u0, .inr (1, [.ref u1, .int (nI pu.length)])), (u1, .inl (cI, 6, .inl (cN pur)))]) [0, 1, 2, 3] rfl
  have hD := hD.sub (ws' := [(c0, .inr (6, [.ref f0, .ref t0, .ref w0, .ref v0, .ref g0, .ref k0, .int (nI ck)])), (t0, .inr (4, [.ref t1, .ref t2, .ref t3, .ref t4, .ref u0, .int (nI li), .ref t5])), (u0, .inr (1, [.ref u1, .int (nI pu.length)])), (u1, .inl (cI, 6, .inl (cN pur)))]) [0, 1, 2, 3] (by decide) rfl
  refine q_zne (tgt := 24) hx hb (b := (pu.contains pe)) dX6_needStream_11 (by decide) (fun c11 => ?_) (fun c11 => ?_)
  · refine kret 24 _ _ _   dX6_needStream_24 hP hD hS
  · exact absurd hct (by rw [c11]; decide)

set_option maxHeartbeats 4000000 in
set_option maxRecDepth 100000 in
theorem c_X6_needStream (l : Launch) (dC : Nat → ClassId) (dI : Nat → Nat → Nat) (cI cZ cG : ClassId) (c0 : Nat) (f0 : Nat) (t0 : Nat) (w0 : Nat) (v0 : Nat) (g0 : Nat) (k0 : Nat) (ck : Nat) (t1 : Nat) (t2 : Nat) (t3 : Nat) (t4 : Nat) (t5 : Nat) (u0 : Nat) (li : Nat) (u1 : Nat) (pur : Nat → Nat) (pu : List Nat) (pe : Nat) (sz : Nat) (hp : pe < 6) (hpu : lrep pur pu) (hct : pu.contains pe = true) : Met l yX6_needStream wsX6_needStream ({ frames := 6, cells := 0, slots := 0, locals := 90 } : Room) (va_Pc [.ref c0, .int (nI pe)] (fun U => U.heap.size = sz ∧ va_P (dC, dI) vwCl [(c0, .inr (6, [.ref f0, .ref t0, .ref w0, .ref v0, .ref g0, .ref k0, .int (nI ck)])), (t0, .inr (4, [.ref t1, .ref t2, .ref t3, .ref t4, .ref u0, .int (nI li), .ref t5])), (u0, .inr (1, [.ref u1, .int (nI pu.length)])), (u1, .inl (cI, 6, .inl (cN pur)))] U.heap ∧ va_K (dC, dI) vwCl [(cI, .int), (cZ, .boolean), (cG, .array .int)] U ∧ va_D (fun _ => True) [(c0, .inr (6, [.ref f0, .ref t0, .ref w0, .ref v0, .ref g0, .ref k0, .int (nI ck)])), (t0, .inr (4, [.ref t1, .ref t2, .ref t3, .ref t4, .ref u0, .int (nI li), .ref t5])), (u0, .inr (1, [.ref u1, .int (nI pu.length)])), (u1, .inl (cI, 6, .inl (cN pur)))])) (va_Qv (fun (_ : Unit) => True) (fun (_ : Unit) t => va_P (dC, dI) vwCl [(c0, .inr (6, [.ref f0, .ref t0, .ref w0, .ref v0, .ref g0, .ref k0, .int (nI ck)])), (t0, .inr (4, [.ref t1, .ref t2, .ref t3, .ref t4, .ref u0, .int (nI li), .ref t5])), (u0, .inr (1, [.ref u1, .int (nI pu.length)])), (u1, .inl (cI, 6, .inl (cN pur)))] t.heap ∧ va_D (va_A [(c0, .inr (6, [.ref f0, .ref t0, .ref w0, .ref v0, .ref g0, .ref k0, .int (nI ck)])), (t0, .inr (4, [.ref t1, .ref t2, .ref t3, .ref t4, .ref u0, .int (nI li), .ref t5])), (u0, .inr (1, [.ref u1, .int (nI pu.length)])), (u1, .inl (cI, 6, .inl (cN pur)))] sz) [(c0, .inr (6, [.ref f0, .ref t0, .ref w0, .ref v0, .ref g0, .ref k0, .int (nI ck)])), (t0, .inr (4, [.ref t1, .ref t2, .ref t3, .ref t4, .ref u0, .int (nI li), .ref t5])), (u0, .inr (1, [.ref u1, .int (nI pu.length)])), (u1, .inl (cI, 6, .inl (cN pur)))]) (va_A [(c0, .inr (6, [.ref f0, .ref t0, .ref w0, .ref v0, .ref g0, .ref k0, .int (nI ck)])), (t0, .inr (4, [.ref t1, .ref t2, .ref t3, .ref t4, .ref u0, .int (nI li), .ref t5])), (u0, .inr (1, [.ref u1, .int (nI pu.length)])), (u1, .inl (cI, 6, .inl (cN pur)))] sz)) 0 0 (va_A [(c0, .inr (6, [.ref f0, .ref t0, .ref w0, .ref v0, .ref g0, .ref k0, .int (nI ck)])), (t0, .inr (4, [.ref t1, .ref t2, .ref t3, .ref t4, .ref u0, .int (nI li), .ref t5])), (u0, .inr (1, [.ref u1, .int (nI pu.length)])), (u1, .inl (cI, 6, .inl (cN pur)))] sz) := by
  refine Met.ofW (cc := cX6_needStream) (maxL := 2) (ret := none) (by decide) rfl ?_
  intro p e s m args below meth c s₁ B hml hv
  obtain ⟨rfl, hsz, hP, hK, hD0⟩ := hv
  have hts := atoms_spec (ws := wsX6_needStream) B.pre
  have hown : s.vm.findClass RX6 = some m.cls := findClass_of_methodNamed B.named
  have hlocks := B.notSynchronized
  subst hsz
  have hD := hD0.self (sz := s.heap.size)
  have hA : ∀ q : Nat, s.heap.size ≤ q → va_A [(c0, .inr (6, [.ref f0, .ref t0, .ref w0, .ref v0, .ref g0, .ref k0, .int (nI ck)])), (t0, .inr (4, [.ref t1, .ref t2, .ref t3, .ref t4, .ref u0, .int (nI li), .ref t5])), (u0, .inr (1, [.ref u1, .int (nI pu.length)])), (u1, .inl (cI, 6, .inl (cN pur)))] s.heap.size q := fun q h => Or.inr h
  have hl := lv_entry ([.ref c0, .int (nI pe)]) (n := 2) (Nat.le_of_ble_eq_true rfl)
  rw [lg_entry_eq]
  generalize (lg_sl ([.ref c0, .int (nI pe)]) ++ List.replicate (2 - (lg_sl ([.ref c0, .int (nI pe)])).length) Slot.unset).toArray = ls at hl ⊢
  have hl : lv_has ls 2 [(0, .ref c0), (1, .int (nI pe))] := hl
  have hx := B.exec
  have hb := B.bytes
  exact b_X6_needStream hx hb hml hown hts hK hA c0 f0 t0 w0 v0 g0 k0 ck t1 t2 t3 t4 t5 u0 li u1 pur pu pe hp hpu hct  hP hD va_S.rf hl (fun pcr H locs ls   hd hP hD hS => W.vret hx hb B.returns (fun t ht hW => ⟨⟨(), rfl, trivial, by rw [ht]; exact hP, hD⟩, hS.F ht⟩) hS.2.2 hd)
set_option maxHeartbeats 4000000 in
set_option maxRecDepth 100000 in
theorem b_X6_needRange {p : Program} {l : Launch} {e : Env} {s : State} {m : MethodId} {args : Array Value} {below : List Frame} {meth : Method} {c : Code} {Q : State → Prop} {A : Nat → Prop} {dC : Nat → ClassId} {dI : Nat → Nat → Nat} {cI cZ cG : ClassId} (hx : p.tables.exec = Jvm.exec) (hb : c.code = cX6_needRange) (hml : c.maxLocals = 3) (hown : s.vm.findClass RX6 = some m.cls) (hts : ∀ w ∈ wsX6_needRange, w.before args s = true) (hK : va_K (dC, dI) vwCl [(cI, .int), (cZ, .boolean), (cG, .array .int)] s) (hA : ∀ q : Nat, s.heap.size ≤ q → A q) (v1 : Nat) (v2 : Nat) (v3 : Nat) (h1 : v2 ≤ v1) (h2 : v1 ≤ v3) (h3 : v3 < 10000)  {H : Heap} {locs : List Loc} {ls : Array Slot} (hP : va_P (dC, dI) vwCl [] H) (hD : va_D A []) (hS : va_S A s.heap H locs) (hl : lv_has ls 3 [(0, .int (nI v1)), (1, .int (nI v2)), (2, .int (nI v3))]) (kret : ∀ (pcr : Nat) (H : Heap) (locs : List Loc) (ls : Array Slot) , decode cX6_needRange pcr = .ok (.return_, 1) → va_P (dC, dI) vwCl [] H → va_D A [] → va_S A s.heap H locs → W p l e ({ frames := 6, cells := 0, slots := 0, locals := 90 } : Room) s m args below meth c H locs 0 0 Q (F0 m pcr ls [])) : W p l e ({ frames := 6, cells := 0, slots := 0, locals := 90 } : Room) s m args below meth c H locs 0 0 Q (F0 m 0 ls []) := by
  refine lv_iload_n hx hb dX6_needRange_0 rfl (lv_at hl 0 rfl) ?_
  refine lv_iload_n hx hb dX6_needRange_1 rfl (lv_at hl 1 rfl) ?_
  refine q_lt (tgt := 10) hx hb (a := v1) (b := v2) (by omega) (by omega) dX6_needRange_2 (by decide) (fun c2 => ?_) (fun c2 => ?_)
  · exact absurd c2 (by omega)
  · refine lv_iload_n hx hb dX6_needRange_5 rfl (lv_at hl 0 rfl) ?_
    refine lv_iload_n hx hb dX6_needRange_6 rfl (lv_at hl 2 rfl) ?_
    refine q_le (tgt := 20) hx hb (a := v1) (b := v3) (by omega) (by omega) dX6_needRange_7 (by decide) (fun c7 => ?_) (fun c7 => ?_)
    · refine kret 20 _ _ _   dX6_needRange_20 hP hD hS
    · exact absurd c7 (by omega)

set_option maxHeartbeats 4000000 in
set_option maxRecDepth 100000 in
theorem c_X6_needRange (l : Launch) (dC : Nat → ClassId) (dI : Nat → Nat → Nat) (cI cZ cG : ClassId) (v1 : Nat) (v2 : Nat) (v3 : Nat) (sz : Nat) (h1 : v2 ≤ v1) (h2 : v1 ≤ v3) (h3 : v3 < 10000) : Met l yX6_needRange wsX6_needRange ({ frames := 6, cells := 0, slots := 0, locals := 90 } : Room) (va_Pc [.int (nI v1), .int (nI v2), .int (nI v3)] (fun U => U.heap.size = sz ∧ va_P (dC, dI) vwCl [] U.heap ∧ va_K (dC, dI) vwCl [(cI, .int), (cZ, .boolean), (cG, .array .int)] U ∧ va_D (fun _ => True) [])) (va_Qv (fun (_ : Unit) => True) (fun (_ : Unit) t => va_P (dC, dI) vwCl [] t.heap ∧ va_D (va_A [] sz) []) (va_A [] sz)) 0 0 (va_A [] sz) := by
  refine Met.ofW (cc := cX6_needRange) (maxL := 3) (ret := none) (by decide) rfl ?_
  intro p e s m args below meth c s₁ B hml hv
  obtain ⟨rfl, hsz, hP, hK, hD0⟩ := hv
  have hts := atoms_spec (ws := wsX6_needRange) B.pre
  have hown : s.vm.findClass RX6 = some m.cls := findClass_of_methodNamed B.named
  have hlocks := B.notSynchronized
  subst hsz
  have hD := hD0.self (sz := s.heap.size)
  have hA : ∀ q : Nat, s.heap.size ≤ q → va_A [] s.heap.size q := fun q h => Or.inr h
  have hl := lv_entry ([.int (nI v1), .int (nI v2), .int (nI v3)]) (n := 3) (Nat.le_of_ble_eq_true rfl)
  rw [lg_entry_eq]
  generalize (lg_sl ([.int (nI v1), .int (nI v2), .int (nI v3)]) ++ List.replicate (3 - (lg_sl ([.int (nI v1), .int (nI v2), .int (nI v3)])).length) Slot.unset).toArray = ls at hl ⊢
  have hl : lv_has ls 3 [(0, .int (nI v1)), (1, .int (nI v2)), (2, .int (nI v3))] := hl
  have hx := B.exec
  have hb := B.bytes
  exact b_X6_needRange hx hb hml hown hts hK hA v1 v2 v3 h1 h2 h3  hP hD va_S.rf hl (fun pcr H locs ls   hd hP hD hS => W.vret hx hb B.returns (fun t ht hW => ⟨⟨(), rfl, trivial, by rw [ht]; exact hP, hD⟩, hS.F ht⟩) hS.2.2 hd)
