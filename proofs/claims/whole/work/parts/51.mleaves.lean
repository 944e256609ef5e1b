theorem wX7_thrown_f75 : Cond.fieldLink RX7 75 "ConfroomModel" "thrown" "I" ∈ wsX7_thrown := by decide +kernel
theorem wX7_thrown_X7_u : ∀ w ∈ u_ws RX7 TX7 27, w ∈ wsX7_thrown := by decide +kernel
set_option maxHeartbeats 4000000 in
set_option maxRecDepth 100000 in
theorem b_X7_thrown {p : Program} {l : Launch} {e : Env} {s : State} {m : MethodId} {args : Array Value} {below : List Frame} {meth : Method} {c : Code} {Q : State → Prop} {A : Nat → Prop} {dC : Nat → ClassId} {dI : Nat → Nat → Nat} {cI cZ cG : ClassId} (hx : p.tables.exec = Jvm.exec) (hb : c.code = cX7_thrown) (hml : c.maxLocals = 1) (hown : s.vm.findClass RX7 = some m.cls) (hts : ∀ w ∈ wsX7_thrown, w.before args s = true) (hK : va_K (dC, dI) vwCl [(cI, .int), (cZ, .boolean), (cG, .array .int)] s) (hA : ∀ q : Nat, s.heap.size ≤ q → A q) (m0 : Nat) (m1 : Nat) (m2 : Nat) (m3 : Nat) (m4 : Nat) (m5 : Nat) (m6 : Nat) (m7 : Nat) (m8 : Nat) (m9 : Nat) (m10 : Nat) (m11 : Nat) (m12 : Nat) (m13 : Nat) (m14 : Nat) (m15 : Nat) (m16 : Nat) (m17 : Nat) (th : Nat) (tm : Nat) (ho : Nat) (li : Nat) (bn : Nat) (ld : Option Nat) (sp : List Nat) (lo : Option Nat) (rn : Nat) (sv : List Nat)   {H : Heap} {locs : List Loc} {ls : Array Slot} (hP : va_P (dC, dI) vwCl [(m0, .inr (7, [.int (nI th), .int (nI tm), .int (nI ho), .int (nI li), .ref m1, .ref m2, .ref m3, .ref m4, .ref m5, .ref m6, .ref m7, .ref m8, .int (nI bn), .ref m9, .ref m10, .ref m11, .ref m12, .ref m13, .ref m14, .int (oI ld), .int (nI sp.length), .ref m15, .int (oI lo), .int (nI rn), .int (nI sv.length), .ref m16, .ref m17]))] H) (hD : va_D A [(m0, .inr (7, [.int (nI th), .int (nI tm), .int (nI ho), .int (nI li), .ref m1, .ref m2, .ref m3, .ref m4, .ref m5, .ref m6, .ref m7, .ref m8, .int (nI bn), .ref m9, .ref m10, .ref m11, .ref m12, .ref m13, .ref m14, .int (oI ld), .int (nI sp.length), .ref m15, .int (oI lo), .int (nI rn), .int (nI sv.length), .ref m16, .ref m17]))]) (hS : va_S A s.heap H locs) (hl : lv_has ls 1 [(0, .ref m0)]) (kret : ∀ (pcr : Nat) (H : Heap) (locs : List Loc) (ls : Array Slot) , decode cX7_thrown pcr = .ok (.ireturn, 1) → va_P (dC, dI) vwCl [(m0, .inr (7, [.int (nI th), .int (nI tm), .int (nI ho), .int (nI li), .ref m1, .ref m2, .ref m3, .ref m4, .ref m5, .ref m6, .ref m7, .ref m8, .int (nI bn), .ref m9, .ref m10, .ref m11, .ref m12, .ref m13, .ref m14, .int (oI ld), .int (nI sp.length), .ref m15, .int (oI lo), .int (nI rn), .int (nI sv.length), .ref m16, .ref m17]))] H → va_D A [(m0, .inr (7, [.int (nI th), .int (nI tm), .int (nI ho), .int (nI li), .ref m1, .ref m2, .ref m3, .ref m4, .ref m5, .ref m6, .ref m7, .ref m8, .int (nI bn), .ref m9, .ref m10, .ref m11, .ref m12, .ref m13, .ref m14, .int (oI ld), .int (nI sp.length), .ref m15, .int (oI lo), .int (nI rn), .int (nI sv.length), .ref m16, .ref m17]))] → va_S A s.heap H locs → W p l e ({ frames := 0, cells := 0, slots := 0, locals := 0 } : Room) s m args below meth c H locs 0 0 Q (F0 m pcr ls [.int (nI th)])) : W p l e ({ frames := 0, cells := 0, slots := 0, locals := 0 } : Room) s m args below meth c H locs 0 0 Q (F0 m 0 ls []) := by
  refine lv_aload_n hx hb dX7_thrown_0 rfl (lv_at hl 0 rfl) ?_
  refine va_get (D := (dC, dI)) (ci := 7) (v := .int (nI th)) (C := RX7) (T := TX7) (N := 27) hx hb hts (wX7_thrown_X7_u) hown hK hP 0 rfl rfl 0 (by decide) (hts (.fieldLink RX7 75 "ConfroomModel" "thrown" "I") (wX7_thrown_f75)) (fun _ h9 => h9) rfl dX7_thrown_1 ?_
  refine kret 4 _ _ _   dX7_thrown_4 hP hD hS

set_option maxHeartbeats 4000000 in
set_option maxRecDepth 100000 in
theorem c_X7_thrown (l : Launch) (dC : Nat → ClassId) (dI : Nat → Nat → Nat) (cI cZ cG : ClassId) (m0 : Nat) (m1 : Nat) (m2 : Nat) (m3 : Nat) (m4 : Nat) (m5 : Nat) (m6 : Nat) (m7 : Nat) (m8 : Nat) (m9 : Nat) (m10 : Nat) (m11 : Nat) (m12 : Nat) (m13 : Nat) (m14 : Nat) (m15 : Nat) (m16 : Nat) (m17 : Nat) (th : Nat) (tm : Nat) (ho : Nat) (li : Nat) (bn : Nat) (ld : Option Nat) (sp : List Nat) (lo : Option Nat) (rn : Nat) (sv : List Nat) (sz : Nat)  : Met l yX7_thrown wsX7_thrown ({ frames := 0, cells := 0, slots := 0, locals := 0 } : Room) (va_Pc [.ref m0] (fun U => U.heap.size = sz ∧ va_P (dC, dI) vwCl [(m0, .inr (7, [.int (nI th), .int (nI tm), .int (nI ho), .int (nI li), .ref m1, .ref m2, .ref m3, .ref m4, .ref m5, .ref m6, .ref m7, .ref m8, .int (nI bn), .ref m9, .ref m10, .ref m11, .ref m12, .ref m13, .ref m14, .int (oI ld), .int (nI sp.length), .ref m15, .int (oI lo), .int (nI rn), .int (nI sv.length), .ref m16, .ref m17]))] U.heap ∧ va_K (dC, dI) vwCl [(cI, .int), (cZ, .boolean), (cG, .array .int)] U ∧ va_D (fun _ => True) [(m0, .inr (7, [.int (nI th), .int (nI tm), .int (nI ho), .int (nI li), .ref m1, .ref m2, .ref m3, .ref m4, .ref m5, .ref m6, .ref m7, .ref m8, .int (nI bn), .ref m9, .ref m10, .ref m11, .ref m12, .ref m13, .ref m14, .int (oI ld), .int (nI sp.length), .ref m15, .int (oI lo), .int (nI rn), .int (nI sv.length), .ref m16, .ref m17]))])) (va_Qi (fun (r u : Int32) => r = u) (fun (u : Int32) t => u = nI th ∧ va_P (dC, dI) vwCl [(m0, .inr (7, [.int (nI th), .int (nI tm), .int (nI ho), .int (nI li), .ref m1, .ref m2, .ref m3, .ref m4, .ref m5, .ref m6, .ref m7, .ref m8, .int (nI bn), .ref m9, .ref m10, .ref m11, .ref m12, .ref m13, .ref m14, .int (oI ld), .int (nI sp.length), .ref m15, .int (oI lo), .int (nI rn), .int (nI sv.length), .ref m16, .ref m17]))] t.heap ∧ va_D (va_A [(m0, .inr (7, [.int (nI th), .int (nI tm), .int (nI ho), .int (nI li), .ref m1, .ref m2, .ref m3, .ref m4, .ref m5, .ref m6, .ref m7, .ref m8, .int (nI bn), .ref m9, .ref m10, .ref m11, .ref m12, .ref m13, .ref m14, .int (oI ld), .int (nI sp.length), .ref m15, .int (oI lo), .int (nI rn), .int (nI sv.length), .ref m16, .ref m17]))] sz) [(m0, .inr (7, [.int (nI th), .int (nI tm), .int (nI ho), .int (nI li), .ref m1, .ref m2, .ref m3, .ref m4, .ref m5, .ref m6, .ref m7, .ref m8, .int (nI bn), .ref m9, .ref m10, .ref m11, .ref m12, .ref m13, .ref m14, .int (oI ld), .int (nI sp.length), .ref m15, .int (oI lo), .int (nI rn), .int (nI sv.length), .ref m16, .ref m17]))]) (va_A [(m0, .inr (7, [.int (nI th), .int (nI tm), .int (nI ho), .int (nI li), .ref m1, .ref m2, .ref m3, .ref m4, .ref m5, .ref m6, .ref m7, .ref m8, .int (nI bn), .ref m9, .ref m10, .ref m11, .ref m12, .ref m13, .ref m14, .int (oI ld), .int (nI sp.length), .ref m15, .int (oI lo), .int (nI rn), .int (nI sv.length), .ref m16, .ref m17]))] sz)) 0 0 (va_A [(m0, .inr (7, [.int (nI th), .int (nI tm), .int (nI ho), .int (nI li), .ref m1, .ref m2, .ref m3, .ref m4, .ref m5, .ref m6, .ref m7, .ref m8, .int (nI bn), .ref m9, .ref m10, .ref m11, .ref m12, .ref m13, .ref m14, .int (oI ld), .int (nI sp.length), .ref m15, .int (oI lo), .int (nI rn), .int (nI sv.length), .ref m16, .ref m17]))] sz) := by
  refine Met.ofW (cc := cX7_thrown) (maxL := 1) (ret := (some .int)) (by decide) rfl ?_
  intro p e s m args below meth c s₁ B hml hv
  obtain ⟨rfl, hsz, hP, hK, hD0⟩ := hv
  have hts := atoms_spec (ws := wsX7_thrown) B.pre
  have hown : s.vm.findClass RX7 = some m.cls := findClass_of_methodNamed B.named
  have hlocks := B.notSynchronized
  subst hsz
  have hD := hD0.self (sz := s.heap.size)
  have hA : ∀ q : Nat, s.heap.size ≤ q → va_A [(m0, .inr (7, [.int (nI th), .int (nI tm), .int (nI ho), .int (nI li), .ref m1, .ref m2, .ref m3, .ref m4, .ref m5, .ref m6, .ref m7, .ref m8, .int (nI bn), .ref m9, .ref m10, .ref m11, .ref m12, .ref m13, .ref m14, .int (oI ld), .int (nI sp.length), .ref m15, .int (oI lo), .int (nI rn), .int (nI sv.length), .ref m16, .ref m17]))] s.heap.size q := fun q h => Or.inr h
  have hl := lv_entry ([.ref m0]) (n := 1) (Nat.le_of_ble_eq_true rfl)
  rw [lg_entry_eq]
  generalize (lg_sl ([.ref m0]) ++ List.replicate (1 - (lg_sl ([.ref m0])).length) Slot.unset).toArray = ls at hl ⊢
  have hl : lv_has ls 1 [(0, .ref m0)] := hl
  have hx := B.exec
  have hb := B.bytes
  exact b_X7_thrown hx hb hml hown hts hK hA m0 m1 m2 m3 m4 m5 m6 m7 m8 m9 m10 m11 m12 m13 m14 m15 m16 m17 th tm ho li bn ld sp lo rn sv   hP hD va_S.rf hl (fun pcr H locs ls   hd hP hD hS => W.iret hx hb B.returns (fun t ht hW => ⟨⟨_, _, rfl, rfl, rfl, by rw [ht]; exact hP, hD⟩, hS.F ht⟩) hS.2.2 hd)
theorem wX7_fails_f75 : Cond.fieldLink RX7 75 "ConfroomModel" "thrown" "I" ∈ wsX7_fails := by decide +kernel
theorem wX7_fails_X7_u : ∀ w ∈ u_ws RX7 TX7 27, w ∈ wsX7_fails := by decide +kernel
set_option maxHeartbeats 4000000 in
set_option maxRecDepth 100000 in
theorem b_X7_fails {p : Program} {l : Launch} {e : Env} {s : State} {m : MethodId} {args : Array Value} {below : List Frame} {meth : Method} {c : Code} {Q : State → Prop} {A : Nat → Prop} {dC : Nat → ClassId} {dI : Nat → Nat → Nat} {cI cZ cG : ClassId} (hx : p.tables.exec = Jvm.exec) (hb : c.code = cX7_fails) (hml : c.maxLocals = 2) (hown : s.vm.findClass RX7 = some m.cls) (hts : ∀ w ∈ wsX7_fails, w.before args s = true) (hK : va_K (dC, dI) vwCl [(cI, .int), (cZ, .boolean), (cG, .array .int)] s) (hA : ∀ q : Nat, s.heap.size ≤ q → A q) (m0 : Nat) (m1 : Nat) (m2 : Nat) (m3 : Nat) (m4 : Nat) (m5 : Nat) (m6 : Nat) (m7 : Nat) (m8 : Nat) (m9 : Nat) (m10 : Nat) (m11 : Nat) (m12 : Nat) (m13 : Nat) (m14 : Nat) (m15 : Nat) (m16 : Nat) (m17 : Nat) (th : Nat) (tm : Nat) (ho : Nat) (li : Nat) (bn : Nat) (ld : Option Nat) (sp : List Nat) (lo : Option Nat) (rn : Nat) (sv : List Nat) (cd : Nat)   {H : Heap} {locs : List Loc} {ls : Array Slot} (hP : va_P (dC, dI) vwCl [(m0, .inr (7, [.int (nI th), .int (nI tm), .int (nI ho), .int (nI li), .ref m1, .ref m2, .ref m3, .ref m4, .ref m5, .ref m6, .ref m7, .ref m8, .int (nI bn), .ref m9, .ref m10, .ref m11, .ref m12, .ref m13, .ref m14, .int (oI ld), .int (nI sp.length), .ref m15, .int (oI lo), .int (nI rn), .int (nI sv.length), .ref m16, .ref m17]))] H) (hD : va_D A [(m0, .inr (7, [.int (nI th), .int (nI tm), .int (nI ho), .int (nI li), .ref m1, .ref m2, .ref m3, .ref m4, .ref m5, .ref m6, .ref m7, .ref m8, .int (nI bn), .ref m9, .ref m10, .ref m11, .ref m12, .ref m13, .ref m14, .int (oI ld), .int (nI sp.length), .ref m15, .int (oI lo), .int (nI rn), .int (nI sv.length), .ref m16, .ref m17]))]) (hS : va_S A s.heap H locs) (hl : lv_has ls 2 [(0, .ref m0), (1, .int (nI cd))]) (kret : ∀ (pcr : Nat) (H : Heap) (locs : List Loc) (ls : Array Slot) , decode cX7_fails pcr = .ok (.ireturn, 1) → va_P (dC, dI) vwCl [(m0, .inr (7, [.int (nI cd), .int (nI tm), .int (nI ho), .int (nI li), .ref m1, .ref m2, .ref m3, .ref m4, .ref m5, .ref m6, .ref m7, .ref m8, .int (nI bn), .ref m9, .ref m10, .ref m11, .ref m12, .ref m13, .ref m14, .int (oI ld), .int (nI sp.length), .ref m15, .int (oI lo), .int (nI rn), .int (nI sv.length), .ref m16, .ref m17]))] H → va_D A [(m0, .inr (7, [.int (nI cd), .int (nI tm), .int (nI ho), .int (nI li), .ref m1, .ref m2, .ref m3, .ref m4, .ref m5, .ref m6, .ref m7, .ref m8, .int (nI bn), .ref m9, .ref m10, .ref m11, .ref m12, .ref m13, .ref m14, .int (oI ld), .int (nI sp.length), .ref m15, .int (oI lo), .int (nI rn), .int (nI sv.length), .ref m16, .ref m17]))] → va_S A s.heap H locs → W p l e ({ frames := 0, cells := 0, slots := 0, locals := 0 } : Room) s m args below meth c H locs 0 0 Q (F0 m pcr ls [.int (nI 0)])) : W p l e ({ frames := 0, cells := 0, slots := 0, locals := 0 } : Room) s m args below meth c H locs 0 0 Q (F0 m 0 ls []) := by
  refine lv_aload_n hx hb dX7_fails_0 rfl (lv_at hl 0 rfl) ?_
  refine lv_iload_n hx hb dX7_fails_1 rfl (lv_at hl 1 rfl) ?_
  refine va_put (D := (dC, dI)) (ci := 7) (v := .int (nI cd)) (ty := .int) (C := RX7) (T := TX7) (N := 27) hx hb hts (wX7_fails_X7_u) tyX7 tyX7_ok nmX7 hown hK hP hD hS 0 rfl rfl 0 (by decide) (hts (.fieldLink RX7 75 "ConfroomModel" "thrown" "I") (wX7_fails_f75)) (fun _ h9 => h9) rfl (by decide +kernel) rfl rfl (Nat.le_of_ble_eq_true rfl) dX7_fails_2 (fun H locs hP hD hS => ?_)
  have hP : va_P (dC, dI) vwCl [(m0, .inr (7, [.int (nI cd), .int (nI tm), .int (nI ho), .int (nI li), .ref m1, .ref m2, .ref m3, .ref m4, .ref m5, .ref m6, .ref m7, .ref m8, .int (nI bn), .ref m9, .ref m10, .ref m11, .ref m12, .ref m13, .ref m14, .int (oI ld), .int (nI sp.length), .ref m15, .int (oI lo), .int (nI rn), .int (nI sv.length), .ref m16, .ref m17]))] H := hP
  have hD : va_D A [(m0, .inr (7, [.int (nI cd), .int (nI tm), .int (nI ho), .int (nI li), .ref m1, .ref m2, .ref m3, .ref m4, .ref m5, .ref m6, .ref m7, .ref m8, .int (nI bn), .ref m9, .ref m10, .ref m11, .ref m12, .ref m13, .ref m14, .int (oI ld), .int (nI sp.length), .ref m15, .int (oI lo), .int (nI rn), .int (nI sv.length), .ref m16, .ref m17]))] := hD
  refine lv_iconst (v := nI 0) hx hb dX7_fails_5 (by decide) ?_
  refine kret 6 _ _ _   dX7_fails_6 hP hD hS

set_option maxHeartbeats 4000000 in
set_option maxRecDepth 100000 in
theorem c_X7_fails (l : Launch) (dC : Nat → ClassId) (dI : Nat → Nat → Nat) (cI cZ cG : ClassId) (m0 : Nat) (m1 : Nat) (m2 : Nat) (m3 : Nat) (m4 : Nat) (m5 : Nat) (m6 : Nat) (m7 : Nat) (m8 : Nat) (m9 : Nat) (m10 : Nat) (m11 : Nat) (m12 : Nat) (m13 : Nat) (m14 : Nat) (m15 : Nat) (m16 : Nat) (m17 : Nat) (th : Nat) (tm : Nat) (ho : Nat) (li : Nat) (bn : Nat) (ld : Option Nat) (sp : List Nat) (lo : Option Nat) (rn : Nat) (sv : List Nat) (cd : Nat) (sz : Nat)  : Met l yX7_fails wsX7_fails ({ frames := 0, cells := 0, slots := 0, locals := 0 } : Room) (va_Pc [.ref m0, .int (nI cd)] (fun U => U.heap.size = sz ∧ va_P (dC, dI) vwCl [(m0, .inr (7, [.int (nI th), .int (nI tm), .int (nI ho), .int (nI li), .ref m1, .ref m2, .ref m3, .ref m4, .ref m5, .ref m6, .ref m7, .ref m8, .int (nI bn), .ref m9, .ref m10, .ref m11, .ref m12, .ref m13, .ref m14, .int (oI ld), .int (nI sp.length), .ref m15, .int (oI lo), .int (nI rn), .int (nI sv.length), .ref m16, .ref m17]))] U.heap ∧ va_K (dC, dI) vwCl [(cI, .int), (cZ, .boolean), (cG, .array .int)] U ∧ va_D (fun _ => True) [(m0, .inr (7, [.int (nI th), .int (nI tm), .int (nI ho), .int (nI li), .ref m1, .ref m2, .ref m3, .ref m4, .ref m5, .ref m6, .ref m7, .ref m8, .int (nI bn), .ref m9, .ref m10, .ref m11, .ref m12, .ref m13, .ref m14, .int (oI ld), .int (nI sp.length), .ref m15, .int (oI lo), .int (nI rn), .int (nI sv.length), .ref m16, .ref m17]))])) (va_Qi (fun (r u : Int32) => r = u) (fun (u : Int32) t => u = nI 0 ∧ va_P (dC, dI) vwCl [(m0, .inr (7, [.int (nI cd), .int (nI tm), .int (nI ho), .int (nI li), .ref m1, .ref m2, .ref m3, .ref m4, .ref m5, .ref m6, .ref m7, .ref m8, .int (nI bn), .ref m9, .ref m10, .ref m11, .ref m12, .ref m13, .ref m14, .int (oI ld), .int (nI sp.length), .ref m15, .int (oI lo), .int (nI rn), .int (nI sv.length), .ref m16, .ref m17]))] t.heap ∧ va_D (va_A [(m0, .inr (7, [.int (nI th), .int (nI tm), .int (nI ho), .int (nI li), .ref m1, .ref m2, .ref m3, .ref m4, .ref m5, .ref m6, .ref m7, .ref m8, .int (nI bn), .ref m9, .ref m10, .ref m11, .ref m12, .ref m13, .ref m14, .int (oI ld), .int (nI sp.length), .ref m15, .int (oI lo), .int (nI rn), .int (nI sv.length), .ref m16, .ref m17]))] sz) [(m0, .inr (7, [.int (nI cd), .int (nI tm), .int (nI ho), .int (nI li), .ref m1, .ref m2, .ref m3, .ref m4, .ref m5, .ref m6, .ref m7, .ref m8, .int (nI bn), .ref m9, .ref m10, .ref m11, .ref m12, .ref m13, .ref m14, .int (oI ld), .int (nI sp.length), .ref m15, .int (oI lo), .int (nI rn), .int (nI sv.length), .ref m16, .ref m17]))]) (va_A [(m0, .inr (7, [.int (nI th), .int (nI tm), .int (nI ho), .int (nI li), .ref m1, .ref m2, .ref m3, .ref m4, .ref m5, .ref m6, .ref m7, .ref m8, .int (nI bn), .ref m9, .ref m10, .ref m11, .ref m12, .ref m13, .ref m14, .int (oI ld), .int (nI sp.length), .ref m15, .int (oI lo), .int (nI rn), .int (nI sv.length), .ref m16, .ref m17]))] sz)) 0 0 (va_A [(m0, .inr (7, [.int (nI th), .int (nI tm), .int (nI ho), .int (nI li), .ref m1, .ref m2, .ref m3, .ref m4, .ref m5, .ref m6, .ref m7, .ref m8, .int (nI bn), .ref m9, .ref m10, .ref m11, .ref m12, .ref m13, .ref m14, .int (oI ld), .int (nI sp.length), .ref m15, .int (oI lo), .int (nI rn), .int (nI sv.length), .ref m16, .ref m17]))] sz) := by
  refine Met.ofW (cc := cX7_fails) (maxL := 2) (ret := (some .int)) (by decide) rfl ?_
  intro p e s m args below meth c s₁ B hml hv
  obtain ⟨rfl, hsz, hP, hK, hD0⟩ := hv
  have hts := atoms_spec (ws := wsX7_fails) B.pre
  have hown : s.vm.findClass RX7 = some m.cls := findClass_of_methodNamed B.named
  have hlocks := B.notSynchronized
  subst hsz
  have hD := hD0.self (sz := s.heap.size)
  have hA : ∀ q : Nat, s.heap.size ≤ q → va_A [(m0, .inr (7, [.int (nI th), .int (nI tm), .int (nI ho), .int (nI li), .ref m1, .ref m2, .ref m3, .ref m4, .ref m5, .ref m6, .ref m7, .ref m8, .int (nI bn), .ref m9, .ref m10, .ref m11, .ref m12, .ref m13, .ref m14, .int (oI ld), .int (nI sp.length), .ref m15, .int (oI lo), .int (nI rn), .int (nI sv.length), .ref m16, .ref m17]))] s.heap.size q := fun q h => Or.inr h
  have hl := lv_entry ([.ref m0, .int (nI cd)]) (n := 2) (Nat.le_of_ble_eq_true rfl)
  rw [lg_entry_eq]
  generalize (lg_sl ([.ref m0, .int (nI cd)]) ++ List.replicate (2 - (lg_sl ([.ref m0, .int (nI cd)])).length) Slot.unset).toArray = ls at hl ⊢
  have hl : lv_has ls 2 [(0, .ref m0), (1, .int (nI cd))] := hl
  have hx := B.exec
  have hb := B.bytes
  exact b_X7_fails hx hb hml hown hts hK hA m0 m1 m2 m3 m4 m5 m6 m7 m8 m9 m10 m11 m12 m13 m14 m15 m16 m17 th tm ho li bn ld sp lo rn sv cd   hP hD va_S.rf hl (fun pcr H locs ls   hd hP hD hS => W.iret hx hb B.returns (fun t ht hW => ⟨⟨_, _, rfl, rfl, rfl, by rw [ht]; exact hP, hD⟩, hS.F ht⟩) hS.2.2 hd)
set_option maxHeartbeats 4000000 in
set_option maxRecDepth 100000 in
theorem b_X7_in {p : Program} {l : Launch} {e : Env} {s : State} {m : MethodId} {args : Array Value} {below : List Frame} {meth : Method} {c : Code} {Q : State → Prop} {A : Nat → Prop} {dC : Nat → ClassId} {dI : Nat → Nat → Nat} {cI cZ cG : ClassId} (hx : p.tables.exec = Jvm.exec) (hb : c.code = cX7_in) (hml : c.maxLocals = 3) (hown : s.vm.findClass RX7 = some m.cls) (hts : ∀ w ∈ wsX7_in, w.before args s = true) (hK : va_K (dC, dI) vwCl [(cI, .int), (cZ, .boolean), (cG, .array .int)] s) (hA : ∀ q : Nat, s.heap.size ≤ q → A q) (v1 : Int32) (v2 : Int32) (v3 : Int32)   {H : Heap} {locs : List Loc} {ls : Array Slot} (hP : va_P (dC, dI) vwCl [] H) (hD : va_D A []) (hS : va_S A s.heap H locs) (hl : lv_has ls 3 [(0, .int v1), (1, .int v2), (2, .int v3)]) (kret : ∀ (pcr : Nat) (H : Heap) (locs : List Loc) (ls : Array Slot) , decode cX7_in pcr = .ok (.ireturn, 1) → va_P (dC, dI) vwCl [] H → va_D A [] → va_S A s.heap H locs → W p l e ({ frames := 0, cells := 0, slots := 0, locals := 0 } : Room) s m args below meth c H locs 0 0 Q (F0 m pcr ls [.int (bI (inR v1 v2 v3))])) : W p l e ({ frames := 0, cells := 0, slots := 0, locals := 0 } : Room) s m args below meth c H locs 0 0 Q (F0 m 0 ls []) := by
  refine lv_iload_n hx hb dX7_in_0 rfl (lv_at hl 0 rfl) ?_
  refine lv_iload_n hx hb dX7_in_1 rfl (lv_at hl 1 rfl) ?_
  refine lv_icmp_lt (tgt := 14) hx hb dX7_in_2 (by decide) (fun c2 => ?_) (fun c2 => ?_)
  · refine lv_iconst (v := nI 0) hx hb dX7_in_14 (by decide) ?_
    have ev1 : bI false = bI (inR v1 v2 v3) := by congr 1; first | exact (inR_n1 c2).symm | exact (inR_n3 c7).symm | exact (inR_y2 c2 c7).symm
    refine q_as ((show nI 0 = bI false from rfl).trans ev1) ?_
    refine kret 15 _ _ _   dX7_in_15 hP hD hS
  · refine lv_iload_n hx hb dX7_in_5 rfl (lv_at hl 0 rfl) ?_
    refine lv_iload_n hx hb dX7_in_6 rfl (lv_at hl 2 rfl) ?_
    refine lv_icmp_gt (tgt := 14) hx hb dX7_in_7 (by decide) (fun c7 => ?_) (fun c7 => ?_)
    · refine lv_iconst (v := nI 0) hx hb dX7_in_14 (by decide) ?_
      have ev2 : bI false = bI (inR v1 v2 v3) := by congr 1; first | exact (inR_n1 c2).symm | exact (inR_n3 c7).symm | exact (inR_y2 c2 c7).symm
      refine q_as ((show nI 0 = bI false from rfl).trans ev2) ?_
      refine kret 15 _ _ _   dX7_in_15 hP hD hS
    · refine lv_iconst (v := nI 1) hx hb dX7_in_10 (by decide) ?_
      refine lv_goto (tgt := 15) hx hb dX7_in_11 (by decide) ?_
      have ev3 : bI true = bI (inR v1 v2 v3) := by congr 1; first | exact (inR_n1 c2).symm | exact (inR_n3 c7).symm | exact (inR_y2 c2 c7).symm
      refine q_as ((show nI 1 = bI true from rfl).trans ev3) ?_
      refine kret 15 _ _ _   dX7_in_15 hP hD hS

set_option maxHeartbeats 4000000 in
set_option maxRecDepth 100000 in
theorem c_X7_in (l : Launch) (dC : Nat → ClassId) (dI : Nat → Nat → Nat) (cI cZ cG : ClassId) (v1 : Int32) (v2 : Int32) (v3 : Int32) (sz : Nat)  : Met l yX7_in wsX7_in ({ frames := 0, cells := 0, slots := 0, locals := 0 } : Room) (va_Pc [.int v1, .int v2, .int v3] (fun U => U.heap.size = sz ∧ va_P (dC, dI) vwCl [] U.heap ∧ va_K (dC, dI) vwCl [(cI, .int), (cZ, .boolean), (cG, .array .int)] U ∧ va_D (fun _ => True) [])) (va_Qi (fun (r u : Int32) => r = u) (fun (u : Int32) t => u = bI (inR v1 v2 v3) ∧ va_P (dC, dI) vwCl [] t.heap ∧ va_D (va_A [] sz) []) (va_A [] sz)) 0 0 (va_A [] sz) := by
  refine Met.ofW (cc := cX7_in) (maxL := 3) (ret := (some .boolean)) (by decide) rfl ?_
  intro p e s m args below meth c s₁ B hml hv
  obtain ⟨rfl, hsz, hP, hK, hD0⟩ := hv
  have hts := atoms_spec (ws := wsX7_in) B.pre
  have hown : s.vm.findClass RX7 = some m.cls := findClass_of_methodNamed B.named
  have hlocks := B.notSynchronized
  subst hsz
  have hD := hD0.self (sz := s.heap.size)
  have hA : ∀ q : Nat, s.heap.size ≤ q → va_A [] s.heap.size q := fun q h => Or.inr h
  have hl := lv_entry ([.int v1, .int v2, .int v3]) (n := 3) (Nat.le_of_ble_eq_true rfl)
  rw [lg_entry_eq]
  generalize (lg_sl ([.int v1, .int v2, .int v3]) ++ List.replicate (3 - (lg_sl ([.int v1, .int v2, .int v3])).length) Slot.unset).toArray = ls at hl ⊢
  have hl : lv_has ls 3 [(0, .int v1), (1, .int v2), (2, .int v3)] := hl
  have hx := B.exec
  have hb := B.bytes
  exact b_X7_in hx hb hml hown hts hK hA v1 v2 v3   hP hD va_S.rf hl (fun pcr H locs ls   hd hP hD hS => W.zret hx hb B.returns (q_nz _) (fun t ht hW => ⟨⟨_, _, rfl, rfl, rfl, by rw [ht]; exact hP, hD⟩, hS.F ht⟩) hS.2.2 hd)
theorem wX7_isPerson_f16 : Cond.fieldLink RX7 16 "ConfroomModel" "isThere" "[Z" ∈ wsX7_isPerson := by decide +kernel
theorem wX7_isPerson_X7_u : ∀ w ∈ u_ws RX7 TX7 27, w ∈ wsX7_isPerson := by decide +kernel
set_option maxHeartbeats 4000000 in
set_option maxRecDepth 100000 in
theorem b_X7_isPerson {p : Program} {l : Launch} {e : Env} {s : State} {m : MethodId} {args : Array Value} {below : List Frame} {meth : Method} {c : Code} {Q : State → Prop} {A : Nat → Prop} {dC : Nat → ClassId} {dI : Nat → Nat → Nat} {cI cZ cG : ClassId} (hx : p.tables.exec = Jvm.exec) (hb : c.code = cX7_isPerson) (hml : c.maxLocals = 2) (hown : s.vm.findClass RX7 = some m.cls) (hts : ∀ w ∈ wsX7_isPerson, w.before args s = true) (hK : va_K (dC, dI) vwCl [(cI, .int), (cZ, .boolean), (cG, .array .int)] s) (hA : ∀ q : Nat, s.heap.size ≤ q → A q) (m0 : Nat) (m1 : Nat) (m2 : Nat) (m3 : Nat) (m4 : Nat) (m5 : Nat) (m6 : Nat) (m7 : Nat) (m8 : Nat) (m9 : Nat) (m10 : Nat) (m11 : Nat) (m12 : Nat) (m13 : Nat) (m14 : Nat) (m15 : Nat) (m16 : Nat) (m17 : Nat) (th : Nat) (tm : Nat) (ho : Nat) (li : Nat) (bn : Nat) (ld : Option Nat) (sp : List Nat) (lo : Option Nat) (rn : Nat) (sv : List Nat) (he : Nat → Bool) (r1 : Int32)   {H : Heap} {locs : List Loc} {ls : Array Slot} (hP : va_P (dC, dI) vwCl [(m0, .inr (7, [.int (nI th), .int (nI tm), .int (nI ho), .int (nI li), .ref m1, .ref m2, .ref m3, .ref m4, .ref m5, .ref m6, .ref m7, .ref m8, .int (nI bn), .ref m9, .ref m10, .ref m11, .ref m12, .ref m13, .ref m14, .int (oI ld), .int (nI sp.length), .ref m15, .int (oI lo), .int (nI rn), .int (nI sv.length), .ref m16, .ref m17])), (m1, .inl (cZ, 6, .inl (cB he)))] H) (hD : va_D A [(m0, .inr (7, [.int (nI th), .int (nI tm), .int (nI ho), .int (nI li), .ref m1, .ref m2, .ref m3, .ref m4, .ref m5, .ref m6, .ref m7, .ref m8, .int (nI bn), .ref m9, .ref m10, .ref m11, .ref m12, .ref m13, .ref m14, .int (oI ld), .int (nI sp.length), .ref m15, .int (oI lo), .int (nI rn), .int (nI sv.length), .ref m16, .ref m17])), (m1, .inl (cZ, 6, .inl (cB he)))]) (hS : va_S A s.heap H locs) (hl : lv_has ls 2 [(0, .ref m0), (1, .int r1)]) (kret : ∀ (pcr : Nat) (H : Heap) (locs : List Loc) (ls : Array Slot) , decode cX7_isPerson pcr = .ok (.ireturn, 1) → va_P (dC, dI) vwCl [(m0, .inr (7, [.int (nI th), .int (nI tm), .int (nI ho), .int (nI li), .ref m1, .ref m2, .ref m3, .ref m4, .ref m5, .ref m6, .ref m7, .ref m8, .int (nI bn), .ref m9, .ref m10, .ref m11, .ref m12, .ref m13, .ref m14, .int (oI ld), .int (nI sp.length), .ref m15, .int (oI lo), .int (nI rn), .int (nI sv.length), .ref m16, .ref m17])), (m1, .inl (cZ, 6, .inl (cB he)))] H → va_D A [(m0, .inr (7, [.int (nI th), .int (nI tm), .int (nI ho), .int (nI li), .ref m1, .ref m2, .ref m3, .ref m4, .ref m5, .ref m6, .ref m7, .ref m8, .int (nI bn), .ref m9, .ref m10, .ref m11, .ref m12, .ref m13, .ref m14, .int (oI ld), .int (nI sp.length), .ref m15, .int (oI lo), .int (nI rn), .int (nI sv.length), .ref m16, .ref m17])), (m1, .inl (cZ, 6, .inl (cB he)))] → va_S A s.heap H locs → W p l e ({ frames := 1, cells := 0, slots := 0, locals := 22 } : Room) s m args below meth c H locs 0 0 Q (F0 m pcr ls [.int (bI (isP he r1))])) : W p l e ({ frames := 1, cells := 0, slots := 0, locals := 22 } : Room) s m args below meth c H locs 0 0 Q (F0 m 0 ls []) := by
  refine lv_iload_n hx hb dX7_isPerson_0 rfl (lv_at hl 1 rfl) ?_
  refine lv_iconst (v := nI 0) hx hb dX7_isPerson_1 (by decide) ?_
  refine lv_iconst (v := nI 5) hx hb dX7_isPerson_2 (by decide) ?_
  have hPc := hP.sub (ws' := []) [] rfl
  have hDc := hD.sub (ws' := []) [] (by decide) rfl
  have hFc := va_free (wc := []) hD hS hA [] rfl
  refine va_calli (va_runS (As := [.int r1, .int (nI 0), .int (nI 5)]) (rest := []) ⟨hx, hb, hml, hown, hts⟩ (c_X7_in l dC dI cI cZ cG r1 (nI 0) (nI 5) H.size ) (va_cwS 3 hts gX7_isPerson_X7_in rfl rfl rfl (by decide +kernel) ⟨Nat.le_of_ble_eq_true rfl, Nat.le_of_ble_eq_true rfl⟩) ⟨fun a U g mk q => q_blind q, fun U hU hW => ⟨rfl, by rw [hU], by rw [hU]; exact hPc, va_K.moved hW.alike hK, hDc.weaken (fun _ _ _ _ => trivial)⟩⟩ rfl rfl hl.1 rfl (lv_room (Nat.le_of_ble_eq_true rfl)) dX7_isPerson_3 ⟨by decide, by decide⟩) hS (fun q _ h => hFc q h) hFc (fun rv u t H1 locs ht hvm hw hB hz1 hk1 hS => ?_)
  obtain ⟨  hr1, hP1, hD1⟩ := hB
  rw [ht] at hP1
  subst hw
  subst hr1
  obtain ⟨hP, hD⟩ := va_join (wr := [(m0, .inr (7, [.int (nI th), .int (nI tm), .int (nI ho), .int (nI li), .ref m1, .ref m2, .ref m3, .ref m4, .ref m5, .ref m6, .ref m7, .ref m8, .int (nI bn), .ref m9, .ref m10, .ref m11, .ref m12, .ref m13, .ref m14, .int (oI ld), .int (nI sp.length), .ref m15, .int (oI lo), .int (nI rn), .int (nI sv.length), .ref m16, .ref m17])), (m1, .inl (cZ, 6, .inl (cB he)))]) (w1 := []) hP hD [] [0, 1] rfl rfl (by decide) (by decide) hk1 hFc hP1 hD1
  generalize H1 = H at hP hS ⊢
  have hP := hP.sub (ws' := [(m0, .inr (7, [.int (nI th), .int (nI tm), .int (nI ho), .int (nI li), .ref m1, .ref m2, .ref m3, .ref m4, .ref m5, .ref m6, .ref m7, .ref m8, .int (nI bn), .ref m9, .ref m10, .ref m11, .ref m12, .ref m13, .ref m14, .int (oI ld), .int (nI sp.length), .ref m15, .int (oI lo), .int (nI rn), .int (nI sv.length), .ref m16, .ref m17])), (m1, .inl (cZ, 6, .inl (cB he)))]) [0, 1] rfl
  have hD := hD.sub (ws' := [(m0, .inr (7, [.int (nI th), .int (nI tm), .int (nI ho), .int (nI li), .ref m1, .ref m2, .ref m3, .ref m4, .ref m5, .ref m6, .ref m7, .ref m8, .int (nI bn), .ref m9, .ref m10, .ref m11, .ref m12, .ref m13, .ref m14, .int (oI ld), .int (nI sp.length), .ref m15, .int (oI lo), .int (nI rn), .int (nI sv.length), .ref m16, .ref m17])), (m1, .inl (cZ, 6, .inl (cB he)))]) [0, 1] (by decide) rfl
  refine q_zeq (tgt := 22) hx hb (b := (inR r1 (nI 0) (nI 5))) dX7_isPerson_6 (by decide) (fun c6 => ?_) (fun c6 => ?_)
  · refine lv_iconst (v := nI 0) hx hb dX7_isPerson_22 (by decide) ?_
    have ev2 : bI false = bI (isP he r1) := by congr 1; first | exact (isP6_no c6).symm | exact ((isP_val (isP6 c6).1 (isP6 c6).2).trans c15).symm
    refine q_as ((show nI 0 = bI false from rfl).trans ev2) ?_
    refine kret 23 _ _ _   dX7_isPerson_23 hP hD hS
  · refine lv_aload_n hx hb dX7_isPerson_9 rfl (lv_at hl 0 rfl) ?_
    refine va_get (D := (dC, dI)) (ci := 7) (v := .ref m1) (C := RX7) (T := TX7) (N := 27) hx hb hts (wX7_isPerson_X7_u) hown hK hP 0 rfl rfl 4 (by decide) (hts (.fieldLink RX7 16 "ConfroomModel" "isThere" "[Z") (wX7_isPerson_f16)) (fun _ h9 => h9) rfl dX7_isPerson_10 ?_
    refine lv_iload_n hx hb dX7_isPerson_13 rfl (lv_at hl 1 rfl) ?_
    refine q_zBr hx hb hK hP 1 1 rfl rfl (six_in (isP6 c6).1 (isP6 c6).2) dX7_isPerson_14 ?_
    refine q_zeq (tgt := 22) hx hb (b := (he r1.toNatClampNeg)) dX7_isPerson_15 (by decide) (fun c15 => ?_) (fun c15 => ?_)
    · refine lv_iconst (v := nI 0) hx hb dX7_isPerson_22 (by decide) ?_
      have ev3 : bI false = bI (isP he r1) := by congr 1; first | exact (isP6_no c6).symm | exact ((isP_val (isP6 c6).1 (isP6 c6).2).trans c15).symm
      refine q_as ((show nI 0 = bI false from rfl).trans ev3) ?_
      refine kret 23 _ _ _   dX7_isPerson_23 hP hD hS
    · refine lv_iconst (v := nI 1) hx hb dX7_isPerson_18 (by decide) ?_
      refine lv_goto (tgt := 23) hx hb dX7_isPerson_19 (by decide) ?_
      have ev4 : bI true = bI (isP he r1) := by congr 1; first | exact (isP6_no c6).symm | exact ((isP_val (isP6 c6).1 (isP6 c6).2).trans c15).symm
      refine q_as ((show nI 1 = bI true from rfl).trans ev4) ?_
      refine kret 23 _ _ _   dX7_isPerson_23 hP hD hS

set_option maxHeartbeats 4000000 in
set_option maxRecDepth 100000 in
theorem c_X7_isPerson (l : Launch) (dC : Nat → ClassId) (dI : Nat → Nat → Nat) (cI cZ cG : ClassId) (m0 : Nat) (m1 : Nat) (m2 : Nat) (m3 : Nat) (m4 : Nat) (m5 : Nat) (m6 : Nat) (m7 : Nat) (m8 : Nat) (m9 : Nat) (m10 : Nat) (m11 : Nat) (m12 : Nat) (m13 : Nat) (m14 : Nat) (m15 : Nat) (m16 : Nat) (m17 : Nat) (th : Nat) (tm : Nat) (ho : Nat) (li : Nat) (bn : Nat) (ld : Option Nat) (sp : List Nat) (lo : Option Nat) (rn : Nat) (sv : List Nat) (he : Nat → Bool) (r1 : Int32) (sz : Nat)  : Met l yX7_isPerson wsX7_isPerson ({ frames := 1, cells := 0, slots := 0, locals := 22 } : Room) (va_Pc [.ref m0, .int r1] (fun U => U.heap.size = sz ∧ va_P (dC, dI) vwCl [(m0, .inr (7, [.int (nI th), .int (nI tm), .int (nI ho), .int (nI li), .ref m1, .ref m2, .ref m3, .ref m4, .ref m5, .ref m6, .ref m7, .ref m8, .int (nI bn), .ref m9, .ref m10, .ref m11, .ref m12, .ref m13, .ref m14, .int (oI ld), .int (nI sp.length), .ref m15, .int (oI lo), .int (nI rn), .int (nI sv.length), .ref m16, .ref m17])), (m1, .inl (cZ, 6, .inl (cB he)))] U.heap ∧ va_K (dC, dI) vwCl [(cI, .int), (cZ, .boolean), (cG, .array .int)] U ∧ va_D (fun _ => True) [(m0, .inr (7, [.int (nI th), .int (nI tm), .int (nI ho), .int (nI li), .ref m1, .ref m2, .ref m3, .ref m4, .ref m5, .ref m6, .ref m7, .ref m8, .int (nI bn), .ref m9, .ref m10, .ref m11, .ref m12, .ref m13, .ref m14, .int (oI ld), .int (nI sp.length), .ref m15, .int (oI lo), .int (nI rn), .int (nI sv.length), .ref m16, .ref m17])), (m1, .inl (cZ, 6, .inl (cB he)))])) (va_Qi (fun (r u : Int32) => r = u) (fun (u : Int32) t => u = bI (isP he r1) ∧ va_P (dC, dI) vwCl [(m0, .inr (7, [.int (nI th), .int (nI tm), .int (nI ho), .int (nI li), .ref m1, .ref m2, .ref m3, .ref m4, .ref m5, .ref m6, .ref m7, .ref m8, .int (nI bn), .ref m9, .ref m10, .ref m11, .ref m12, .ref m13, .ref m14, .int (oI ld), .int (nI sp.length), .ref m15, .int (oI lo), .int (nI rn), .int (nI sv.length), .ref m16, .ref m17])), (m1, .inl (cZ, 6, .inl (cB he)))] t.heap ∧ va_D (va_A [(m0, .inr (7, [.int (nI th), .int (nI tm), .int (nI ho), .int (nI li), .ref m1, .ref m2, .ref m3, .ref m4, .ref m5, .ref m6, .ref m7, .ref m8, .int (nI bn), .ref m9, .ref m10, .ref m11, .ref m12, .ref m13, .ref m14, .int (oI ld), .int (nI sp.length), .ref m15, .int (oI lo), .int (nI rn), .int (nI sv.length), .ref m16, .ref m17])), (m1, .inl (cZ, 6, .inl (cB he)))] sz) [(m0, .inr (7, [.int (nI th), .int (nI tm), .int (nI ho), .int (nI li), .ref m1, .ref m2, .ref m3, .ref m4, .ref m5, .ref m6, .ref m7, .ref m8, .int (nI bn), .ref m9, .ref m10, .ref m11, .ref m12, .ref m13, .ref m14, .int (oI ld), .int (nI sp.length), .ref m15, .int (oI lo), .int (nI rn), .int (nI sv.length), .ref m16, .ref m17])), (m1, .inl (cZ, 6, .inl (cB he)))]) (va_A [(m0, .inr (7, [.int (nI th), .int (nI tm), .int (nI ho), .int (nI li), .ref m1, .ref m2, .ref m3, .ref m4, .ref m5, .ref m6, .ref m7, .ref m8, .int (nI bn), .ref m9, .ref m10, .ref m11, .ref m12, .ref m13, .ref m14, .int (oI ld), .int (nI sp.length), .ref m15, .int (oI lo), .int (nI rn), .int (nI sv.length), .ref m16, .ref m17])), (m1, .inl (cZ, 6, .inl (cB he)))] sz)) 0 0 (va_A [(m0, .inr (7, [.int (nI th), .int (nI tm), .int (nI ho), .int (nI li), .ref m1, .ref m2, .ref m3, .ref m4, .ref m5, .ref m6, .ref m7, .ref m8, .int (nI bn), .ref m9, .ref m10, .ref m11, .ref m12, .ref m13, .ref m14, .int (oI ld), .int (nI sp.length), .ref m15, .int (oI lo), .int (nI rn), .int (nI sv.length), .ref m16, .ref m17])), (m1, .inl (cZ, 6, .inl (cB he)))] sz) := by
  refine Met.ofW (cc := cX7_isPerson) (maxL := 2) (ret := (some .boolean)) (by decide) rfl ?_
  intro p e s m args below meth c s₁ B hml hv
  obtain ⟨rfl, hsz, hP, hK, hD0⟩ := hv
  have hts := atoms_spec (ws := wsX7_isPerson) B.pre
  have hown : s.vm.findClass RX7 = some m.cls := findClass_of_methodNamed B.named
  have hlocks := B.notSynchronized
  subst hsz
  have hD := hD0.self (sz := s.heap.size)
  have hA : ∀ q : Nat, s.heap.size ≤ q → va_A [(m0, .inr (7, [.int (nI th), .int (nI tm), .int (nI ho), .int (nI li), .ref m1, .ref m2, .ref m3, .ref m4, .ref m5, .ref m6, .ref m7, .ref m8, .int (nI bn), .ref m9, .ref m10, .ref m11, .ref m12, .ref m13, .ref m14, .int (oI ld), .int (nI sp.length), .ref m15, .int (oI lo), .int (nI rn), .int (nI sv.length), .ref m16, .ref m17])), (m1, .inl (cZ, 6, .inl (cB he)))] s.heap.size q := fun q h => Or.inr h
  have hl := lv_entry ([.ref m0, .int r1]) (n := 2) (Nat.le_of_ble_eq_true rfl)
  rw [lg_entry_eq]
  generalize (lg_sl ([.ref m0, .int r1]) ++ List.replicate (2 - (lg_sl ([.ref m0, .int r1])).length) Slot.unset).toArray = ls at hl ⊢
  have hl : lv_has ls 2 [(0, .ref m0), (1, .int r1)] := hl
  have hx := B.exec
  have hb := B.bytes
  exact b_X7_isPerson hx hb hml hown hts hK hA m0 m1 m2 m3 m4 m5 m6 m7 m8 m9 m10 m11 m12 m13 m14 m15 m16 m17 th tm ho li bn ld sp lo rn sv he r1   hP hD va_S.rf hl (fun pcr H locs ls   hd hP hD hS => W.zret hx hb B.returns (q_nz _) (fun t ht hW => ⟨⟨_, _, rfl, rfl, rfl, by rw [ht]; exact hP, hD⟩, hS.F ht⟩) hS.2.2 hd)
theorem wX7_shows_f16 : Cond.fieldLink RX7 16 "ConfroomModel" "isThere" "[Z" ∈ wsX7_shows := by decide +kernel
theorem wX7_shows_f30 : Cond.fieldLink RX7 30 "ConfroomModel" "placeMany" "[I" ∈ wsX7_shows := by decide +kernel
theorem wX7_shows_f36 : Cond.fieldLink RX7 36 "ConfroomModel" "isOn" "[Z" ∈ wsX7_shows := by decide +kernel
theorem wX7_shows_f69 : Cond.fieldLink RX7 69 "ConfroomModel" "seen" "[I" ∈ wsX7_shows := by decide +kernel
theorem wX7_shows_f82 : Cond.fieldLink RX7 82 "ConfroomModel" "seenMany" "I" ∈ wsX7_shows := by decide +kernel
theorem wX7_shows_X7_u : ∀ w ∈ u_ws RX7 TX7 27, w ∈ wsX7_shows := by decide +kernel
set_option maxHeartbeats 4000000 in
set_option maxRecDepth 100000 in
theorem b_X7_shows {p : Program} {l : Launch} {e : Env} {s : State} {m : MethodId} {args : Array Value} {below : List Frame} {meth : Method} {c : Code} {Q : State → Prop} {A : Nat → Prop} {dC : Nat → ClassId} {dI : Nat → Nat → Nat} {cI cZ cG : ClassId} (hx : p.tables.exec = Jvm.exec) (hb : c.code = cX7_shows) (hml : c.maxLocals = 5) (hown : s.vm.findClass RX7 = some m.cls) (hts : ∀ w ∈ wsX7_shows, w.before args s = true) (hK : va_K (dC, dI) vwCl [(cI, .int), (cZ, .boolean), (cG, .array .int)] s) (hA : ∀ q : Nat, s.heap.size ≤ q → A q) (m0 : Nat) (m1 : Nat) (m2 : Nat) (m3 : Nat) (m4 : Nat) (m5 : Nat) (m6 : Nat) (m7 : Nat) (m8 : Nat) (m9 : Nat) (m10 : Nat) (m11 : Nat) (m12 : Nat) (m13 : Nat) (m14 : Nat) (m15 : Nat) (m16 : Nat) (m17 : Nat) (th : Nat) (tm : Nat) (ho : Nat) (li : Nat) (bn : Nat) (ld : Option Nat) (sp : List Nat) (lo : Option Nat) (rn : Nat) (sv : List Nat) (he : Nat → Bool) (on : Nat → Bool) (pl : Nat → Nat) (svr : Nat → Nat) (pu : List Nat) (re : Nat) (ot : Option Nat) (hre : re < 6) (hot : ∀ j, ot = some j → j < 6) (hpl : ∀ k, pl k ≤ 5) (hon : ∀ j, j < 6 → on j = pu.contains j) (hsv : lrep svr sv)  {H : Heap} {locs : List Loc} {ls : Array Slot} (hP : va_P (dC, dI) vwCl [(m0, .inr (7, [.int (nI th), .int (nI tm), .int (nI ho), .int (nI li), .ref m1, .ref m2, .ref m3, .ref m4, .ref m5, .ref m6, .ref m7, .ref m8, .int (nI bn), .ref m9, .ref m10, .ref m11, .ref m12, .ref m13, .ref m14, .int (oI ld), .int (nI sp.length), .ref m15, .int (oI lo), .int (nI rn), .int (nI sv.length), .ref m16, .ref m17])), (m1, .inl (cZ, 6, .inl (cB he))), (m7, .inl (cZ, 6, .inl (cB on))), (m5, .inl (cI, 6, .inl (cN pl))), (m16, .inl (cI, 6, .inl (cN svr)))] H) (hD : va_D A [(m0, .inr (7, [.int (nI th), .int (nI tm), .int (nI ho), .int (nI li), .ref m1, .ref m2, .ref m3, .ref m4, .ref m5, .ref m6, .ref m7, .ref m8, .int (nI bn), .ref m9, .ref m10, .ref m11, .ref m12, .ref m13, .ref m14, .int (oI ld), .int (nI sp.length), .ref m15, .int (oI lo), .int (nI rn), .int (nI sv.length), .ref m16, .ref m17])), (m1, .inl (cZ, 6, .inl (cB he))), (m7, .inl (cZ, 6, .inl (cB on))), (m5, .inl (cI, 6, .inl (cN pl))), (m16, .inl (cI, 6, .inl (cN svr)))]) (hS : va_S A s.heap H locs) (hl : lv_has ls 5 [(0, .ref m0), (1, .int (nI re)), (2, .int (oI ot))]) (kret : ∀ (pcr : Nat) (H : Heap) (locs : List Loc) (ls : Array Slot) (svr9 : Nat → Nat), (lrep svr9 (showF he pu (pl re) sv re ot)) → decode cX7_shows pcr = .ok (.return_, 1) → va_P (dC, dI) vwCl [(m0, .inr (7, [.int (nI th), .int (nI tm), .int (nI ho), .int (nI li), .ref m1, .ref m2, .ref m3, .ref m4, .ref m5, .ref m6, .ref m7, .ref m8, .int (nI bn), .ref m9, .ref m10, .ref m11, .ref m12, .ref m13, .ref m14, .int (oI ld), .int (nI sp.length), .ref m15, .int (oI lo), .int (nI rn), .int (nI ((showF he pu (pl re) sv re ot).length)), .ref m16, .ref m17])), (m1, .inl (cZ, 6, .inl (cB he))), (m7, .inl (cZ, 6, .inl (cB on))), (m5, .inl (cI, 6, .inl (cN pl))), (m16, .inl (cI, 6, .inl (cN svr9)))] H → va_D A [(m0, .inr (7, [.int (nI th), .int (nI tm), .int (nI ho), .int (nI li), .ref m1, .ref m2, .ref m3, .ref m4, .ref m5, .ref m6, .ref m7, .ref m8, .int (nI bn), .ref m9, .ref m10, .ref m11, .ref m12, .ref m13, .ref m14, .int (oI ld), .int (nI sp.length), .ref m15, .int (oI lo), .int (nI rn), .int (nI ((showF he pu (pl re) sv re ot).length)), .ref m16, .ref m17])), (m1, .inl (cZ, 6, .inl (cB he))), (m7, .inl (cZ, 6, .inl (cB on))), (m5, .inl (cI, 6, .inl (cN pl))), (m16, .inl (cI, 6, .inl (cN svr9)))] → va_S A s.heap H locs → W p l e ({ frames := 0, cells := 0, slots := 0, locals := 0 } : Room) s m args below meth c H locs 0 0 Q (F0 m pcr ls [])) : W p l e ({ frames := 0, cells := 0, slots := 0, locals := 0 } : Room) s m args below meth c H locs 0 0 Q (F0 m 0 ls []) := by
  have hvl := hsv.len
  have hotb : ∀ j, ot = some j → j < 2 ^ 31 := fun j hj => Nat.lt_trans (hot j hj) (by decide)
  have L46 : ∀ (cn : Bool) (H : Heap) (locs : List Loc) (ls : Array Slot), (shwC he pu (pl re) sv re ot cn) → va_P (dC, dI) vwCl [(m0, .inr (7, [.int (nI th), .int (nI tm), .int (nI ho), .int (nI li), .ref m1, .ref m2, .ref m3, .ref m4, .ref m5, .ref m6, .ref m7, .ref m8, .int (nI bn), .ref m9, .ref m10, .ref m11, .ref m12, .ref m13, .ref m14, .int (oI ld), .int (nI sp.length), .ref m15, .int (oI lo), .int (nI rn), .int (nI sv.length), .ref m16, .ref m17])), (m1, .inl (cZ, 6, .inl (cB he))), (m7, .inl (cZ, 6, .inl (cB on))), (m5, .inl (cI, 6, .inl (cN pl))), (m16, .inl (cI, 6, .inl (cN svr)))] H → va_D A [(m0, .inr (7, [.int (nI th), .int (nI tm), .int (nI ho), .int (nI li), .ref m1, .ref m2, .ref m3, .ref m4, .ref m5, .ref m6, .ref m7, .ref m8, .int (nI bn), .ref m9, .ref m10, .ref m11, .ref m12, .ref m13, .ref m14, .int (oI ld), .int (nI sp.length), .ref m15, .int (oI lo), .int (nI rn), .int (nI sv.length), .ref m16, .ref m17])), (m1, .inl (cZ, 6, .inl (cB he))), (m7, .inl (cZ, 6, .inl (cB on))), (m5, .inl (cI, 6, .inl (cN pl))), (m16, .inl (cI, 6, .inl (cN svr)))] → va_S A s.heap H locs → lv_has ls 5 [(0, .ref m0), (1, .int (nI re)), (2, .int (oI ot))] → W p l e ({ frames := 0, cells := 0, slots := 0, locals := 0 } : Room) s m args below meth c H locs 0 0 Q (F0 m 46 ls [.int (bI cn)]) := by
    intro cn H locs ls hcn hP hD hS hl
    refine lv_istore_n (lv' := [(3, .int (bI cn)), (0, .ref m0), (1, .int (nI re)), (2, .int (oI ot))]) hx hb dX7_shows_46 rfl hl (by decide) rfl (fun ls hl => ?_)
    refine lv_iconst (v := nI 0) hx hb dX7_shows_47 (by decide) ?_
    refine lv_istore (lv' := [(4, .int (nI 0)), (3, .int (bI cn)), (0, .ref m0), (1, .int (nI re)), (2, .int (oI ot))]) hx hb dX7_shows_48 hl (by decide) rfl (fun ls hl => ?_)
    have L50 : ∀ (n : Nat) (cn2 : Bool) (i : Nat) (H : Heap) (locs : List Loc) (ls : Array Slot), (i ≤ sv.length) → (shwI sv ot cn i cn2) → (sv.length - i < n) → va_P (dC, dI) vwCl [(m0, .inr (7, [.int (nI th), .int (nI tm), .int (nI ho), .int (nI li), .ref m1, .ref m2, .ref m3, .ref m4, .ref m5, .ref m6, .ref m7, .ref m8, .int (nI bn), .ref m9, .ref m10, .ref m11, .ref m12, .ref m13, .ref m14, .int (oI ld), .int (nI sp.length), .ref m15, .int (oI lo), .int (nI rn), .int (nI sv.length), .ref m16, .ref m17])), (m1, .inl (cZ, 6, .inl (cB he))), (m7, .inl (cZ, 6, .inl (cB on))), (m5, .inl (cI, 6, .inl (cN pl))), (m16, .inl (cI, 6, .inl (cN svr)))] H → va_D A [(m0, .inr (7, [.int (nI th), .int (nI tm), .int (nI ho), .int (nI li), .ref m1, .ref m2, .ref m3, .ref m4, .ref m5, .ref m6, .ref m7, .ref m8, .int (nI bn), .ref m9, .ref m10, .ref m11, .ref m12, .ref m13, .ref m14, .int (oI ld), .int (nI sp.length), .ref m15, .int (oI lo), .int (nI rn), .int (nI sv.length), .ref m16, .ref m17])), (m1, .inl (cZ, 6, .inl (cB he))), (m7, .inl (cZ, 6, .inl (cB on))), (m5, .inl (cI, 6, .inl (cN pl))), (m16, .inl (cI, 6, .inl (cN svr)))] → va_S A s.heap H locs → lv_has ls 5 [(0, .ref m0), (1, .int (nI re)), (2, .int (oI ot)), (3, .int (bI cn2)), (4, .int (nI i))] → W p l e ({ frames := 0, cells := 0, slots := 0, locals := 0 } : Room) s m args below meth c H locs 0 0 Q (F0 m 50 ls []) := by
      intro n
      induction n with
      | zero =>
        intro cn2 i H locs ls hi hh hm
        exact absurd hm (Nat.not_lt_zero _)
      | succ n ih50 =>
        intro cn2 i H locs ls hi hh hm hP hD hS hl
        refine lv_iload hx hb dX7_shows_50 (lv_at hl 4 rfl) ?_
        refine lv_aload_n hx hb dX7_shows_52 rfl (lv_at hl 0 rfl) ?_
        refine va_get (D := (dC, dI)) (ci := 7) (v := .int (nI sv.length)) (C := RX7) (T := TX7) (N := 27) hx hb hts (wX7_shows_X7_u) hown hK hP 0 rfl rfl 24 (by decide) (hts (.fieldLink RX7 82 "ConfroomModel" "seenMany" "I") (wX7_shows_f82)) (fun _ h9 => h9) rfl dX7_shows_53 ?_
        refine q_ge (tgt := 86) hx hb (a := i) (b := sv.length) (by omega) (by omega) dX7_shows_56 (by decide) (fun c56 => ?_) (fun c56 => ?_)
        · refine lv_iload_n hx hb dX7_shows_86 rfl (lv_at hl 3 rfl) ?_
          refine q_zeq (tgt := 110) hx hb (b := cn2) dX7_shows_87 (by decide) (fun c87 => ?_) (fun c87 => ?_)
          · have ec1 : (showF he pu (pl re) sv re ot).length = sv.length := by
              first | rw [shw_off hcn hh (by omega) c87] | (rw [hcj]; simp)
            have hP : va_P (dC, dI) vwCl [(m0, .inr (7, [.int (nI th), .int (nI tm), .int (nI ho), .int (nI li), .ref m1, .ref m2, .ref m3, .ref m4, .ref m5, .ref m6, .ref m7, .ref m8, .int (nI bn), .ref m9, .ref m10, .ref m11, .ref m12, .ref m13, .ref m14, .int (oI ld), .int (nI sp.length), .ref m15, .int (oI lo), .int (nI rn), .int (nI ((showF he pu (pl re) sv re ot).length)), .ref m16, .ref m17])), (m1, .inl (cZ, 6, .inl (cB he))), (m7, .inl (cZ, 6, .inl (cB on))), (m5, .inl (cI, 6, .inl (cN pl))), (m16, .inl (cI, 6, .inl (cN svr)))] H := by
              rw [ec1]
              exact hP
            have hD : va_D A [(m0, .inr (7, [.int (nI th), .int (nI tm), .int (nI ho), .int (nI li), .ref m1, .ref m2, .ref m3, .ref m4, .ref m5, .ref m6, .ref m7, .ref m8, .int (nI bn), .ref m9, .ref m10, .ref m11, .ref m12, .ref m13, .ref m14, .int (oI ld), .int (nI sp.length), .ref m15, .int (oI lo), .int (nI rn), .int (nI ((showF he pu (pl re) sv re ot).length)), .ref m16, .ref m17])), (m1, .inl (cZ, 6, .inl (cB he))), (m7, .inl (cZ, 6, .inl (cB on))), (m5, .inl (cI, 6, .inl (cN pl))), (m16, .inl (cI, 6, .inl (cN svr)))] := by
              rw [ec1]
              exact hD
            refine kret 110 _ _ _ svr ?_ dX7_shows_110 hP hD hS
            · first | (rw [shw_off hcn hh (by omega) c87]; exact hsv) | (rw [hcj]; exact lrep_last hsv hjo (shw_notin hcj))
          · obtain ⟨jo, rfl, hjo, hcj⟩ := shw_yes hcn hh (by omega) hot c87
            have hv5 := hpl re
            have hlt := shw_lt hcn hh c87
            refine lv_aload_n hx hb dX7_shows_90 rfl (lv_at hl 0 rfl) ?_
            refine va_get (D := (dC, dI)) (ci := 7) (v := .ref m16) (C := RX7) (T := TX7) (N := 27) hx hb hts (wX7_shows_X7_u) hown hK hP 0 rfl rfl 25 (by decide) (hts (.fieldLink RX7 69 "ConfroomModel" "seen" "[I") (wX7_shows_f69)) (fun _ h9 => h9) rfl dX7_shows_91 ?_
            refine lv_aload_n hx hb dX7_shows_94 rfl (lv_at hl 0 rfl) ?_
            refine va_get (D := (dC, dI)) (ci := 7) (v := .int (nI sv.length)) (C := RX7) (T := TX7) (N := 27) hx hb hts (wX7_shows_X7_u) hown hK hP 0 rfl rfl 24 (by decide) (hts (.fieldLink RX7 82 "ConfroomModel" "seenMany" "I") (wX7_shows_f82)) (fun _ h9 => h9) rfl dX7_shows_95 ?_
            refine lv_iload_n hx hb dX7_shows_98 rfl (lv_at hl 2 rfl) ?_
            refine q_sN hx hb hK hP hD hS 4 0 rfl rfl (k := sv.length) (x := jo) (by omega) (by decide) dX7_shows_99 (fun H locs hP hD hS => ?_)
            have hP : va_P (dC, dI) vwCl [(m0, .inr (7, [.int (nI th), .int (nI tm), .int (nI ho), .int (nI li), .ref m1, .ref m2, .ref m3, .ref m4, .ref m5, .ref m6, .ref m7, .ref m8, .int (nI bn), .ref m9, .ref m10, .ref m11, .ref m12, .ref m13, .ref m14, .int (oI ld), .int (nI sp.length), .ref m15, .int (oI lo), .int (nI rn), .int (nI sv.length), .ref m16, .ref m17])), (m1, .inl (cZ, 6, .inl (cB he))), (m7, .inl (cZ, 6, .inl (cB on))), (m5, .inl (cI, 6, .inl (cN pl))), (m16, .inl (cI, 6, .inl (cN (va_up svr sv.length jo))))] H := hP
            have hD : va_D A [(m0, .inr (7, [.int (nI th), .int (nI tm), .int (nI ho), .int (nI li), .ref m1, .ref m2, .ref m3, .ref m4, .ref m5, .ref m6, .ref m7, .ref m8, .int (nI bn), .ref m9, .ref m10, .ref m11, .ref m12, .ref m13, .ref m14, .int (oI ld), .int (nI sp.length), .ref m15, .int (oI lo), .int (nI rn), .int (nI sv.length), .ref m16, .ref m17])), (m1, .inl (cZ, 6, .inl (cB he))), (m7, .inl (cZ, 6, .inl (cB on))), (m5, .inl (cI, 6, .inl (cN pl))), (m16, .inl (cI, 6, .inl (cN (va_up svr sv.length jo))))] := hD
            refine lv_aload_n hx hb dX7_shows_100 rfl (lv_at hl 0 rfl) ?_
            refine lv_dup hx hb dX7_shows_101 rfl ?_
            refine va_get (D := (dC, dI)) (ci := 7) (v := .int (nI sv.length)) (C := RX7) (T := TX7) (N := 27) hx hb hts (wX7_shows_X7_u) hown hK hP 0 rfl rfl 24 (by decide) (hts (.fieldLink RX7 82 "ConfroomModel" "seenMany" "I") (wX7_shows_f82)) (fun _ h9 => h9) rfl dX7_shows_102 ?_
            refine lv_iconst (v := nI 1) hx hb dX7_shows_105 (by decide) ?_
            refine lv_iadd hx hb dX7_shows_106 (q_as (nI_add sv.length 1) ?_)
            refine va_put (D := (dC, dI)) (ci := 7) (v := .int (nI (sv.length + 1))) (ty := .int) (C := RX7) (T := TX7) (N := 27) hx hb hts (wX7_shows_X7_u) tyX7 tyX7_ok nmX7 hown hK hP hD hS 0 rfl rfl 24 (by decide) (hts (.fieldLink RX7 82 "ConfroomModel" "seenMany" "I") (wX7_shows_f82)) (fun _ h9 => h9) rfl (by decide +kernel) rfl rfl (Nat.le_of_ble_eq_true rfl) dX7_shows_107 (fun H locs hP hD hS => ?_)
            have hP : va_P (dC, dI) vwCl [(m0, .inr (7, [.int (nI th), .int (nI tm), .int (nI ho), .int (nI li), .ref m1, .ref m2, .ref m3, .ref m4, .ref m5, .ref m6, .ref m7, .ref m8, .int (nI bn), .ref m9, .ref m10, .ref m11, .ref m12, .ref m13, .ref m14, .int (oI ld), .int (nI sp.length), .ref m15, .int (oI lo), .int (nI rn), .int (nI (sv.length + 1)), .ref m16, .ref m17])), (m1, .inl (cZ, 6, .inl (cB he))), (m7, .inl (cZ, 6, .inl (cB on))), (m5, .inl (cI, 6, .inl (cN pl))), (m16, .inl (cI, 6, .inl (cN (va_up svr sv.length jo))))] H := hP
            have hD : va_D A [(m0, .inr (7, [.int (nI th), .int (nI tm), .int (nI ho), .int (nI li), .ref m1, .ref m2, .ref m3, .ref m4, .ref m5, .ref m6, .ref m7, .ref m8, .int (nI bn), .ref m9, .ref m10, .ref m11, .ref m12, .ref m13, .ref m14, .int (oI ld), .int (nI sp.length), .ref m15, .int (oI lo), .int (nI rn), .int (nI (sv.length + 1)), .ref m16, .ref m17])), (m1, .inl (cZ, 6, .inl (cB he))), (m7, .inl (cZ, 6, .inl (cB on))), (m5, .inl (cI, 6, .inl (cN pl))), (m16, .inl (cI, 6, .inl (cN (va_up svr sv.length jo))))] := hD
            have ec2 : (showF he pu (pl re) sv re (some jo)).length = sv.length + 1 := by
              first | rw [shw_off hcn hh (by omega) c87] | (rw [hcj]; simp)
            have hP : va_P (dC, dI) vwCl [(m0, .inr (7, [.int (nI th), .int (nI tm), .int (nI ho), .int (nI li), .ref m1, .ref m2, .ref m3, .ref m4, .ref m5, .ref m6, .ref m7, .ref m8, .int (nI bn), .ref m9, .ref m10, .ref m11, .ref m12, .ref m13, .ref m14, .int (oI ld), .int (nI sp.length), .ref m15, .int (oI lo), .int (nI rn), .int (nI ((showF he pu (pl re) sv re (some jo)).length)), .ref m16, .ref m17])), (m1, .inl (cZ, 6, .inl (cB he))), (m7, .inl (cZ, 6, .inl (cB on))), (m5, .inl (cI, 6, .inl (cN pl))), (m16, .inl (cI, 6, .inl (cN (va_up svr sv.length jo))))] H := by
              rw [ec2]
              exact hP
            have hD : va_D A [(m0, .inr (7, [.int (nI th), .int (nI tm), .int (nI ho), .int (nI li), .ref m1, .ref m2, .ref m3, .ref m4, .ref m5, .ref m6, .ref m7, .ref m8, .int (nI bn), .ref m9, .ref m10, .ref m11, .ref m12, .ref m13, .ref m14, .int (oI ld), .int (nI sp.length), .ref m15, .int (oI lo), .int (nI rn), .int (nI ((showF he pu (pl re) sv re (some jo)).length)), .ref m16, .ref m17])), (m1, .inl (cZ, 6, .inl (cB he))), (m7, .inl (cZ, 6, .inl (cB on))), (m5, .inl (cI, 6, .inl (cN pl))), (m16, .inl (cI, 6, .inl (cN (va_up svr sv.length jo))))] := by
              rw [ec2]
              exact hD
            refine kret 110 _ _ _ (va_up svr sv.length jo) ?_ dX7_shows_110 hP hD hS
            · first | (rw [shw_off hcn hh (by omega) c87]; exact hsv) | (rw [hcj]; exact lrep_last hsv hjo (shw_notin hcj))
        · refine lv_iload_n hx hb dX7_shows_59 rfl (lv_at hl 3 rfl) ?_
          refine q_zeq (tgt := 78) hx hb (b := cn2) dX7_shows_60 (by decide) (fun c60 => ?_) (fun c60 => ?_)
          · refine lv_iconst (v := nI 0) hx hb dX7_shows_78 (by decide) ?_
            refine lv_istore_n (lv' := [(3, .int (nI 0)), (0, .ref m0), (1, .int (nI re)), (2, .int (oI ot)), (4, .int (nI i))]) hx hb dX7_shows_79 rfl hl (by decide) rfl (fun ls hl => ?_)
            refine lv_iinc (v := nI (i + 1)) (lv' := [(4, .int (nI (i + 1))), (3, .int (nI 0)), (0, .ref m0), (1, .int (nI re)), (2, .int (oI ot))]) hx hb dX7_shows_80 hl (k := 4) rfl (q_inc i 1) (by decide) rfl (fun ls hl => ?_)
            refine lv_goto (tgt := 50) hx hb dX7_shows_83 (by decide) ?_
            refine ih50 false (i + 1) _ _ _ ?_ ?_ (by omega) hP hD hS (lv_sub hl [2, 3, 4, 1, 0] rfl)
            · omega
            · first | exact shwI_no hh c60 | exact shwI_hit hh c56 (hsv.2 i c56) c71 | exact shwI_go hh c60 c56 (hsv.2 i c56) c71
          · have hrl := hsv.lt c56
            refine lv_aload_n hx hb dX7_shows_63 rfl (lv_at hl 0 rfl) ?_
            refine va_get (D := (dC, dI)) (ci := 7) (v := .ref m16) (C := RX7) (T := TX7) (N := 27) hx hb hts (wX7_shows_X7_u) hown hK hP 0 rfl rfl 25 (by decide) (hts (.fieldLink RX7 69 "ConfroomModel" "seen" "[I") (wX7_shows_f69)) (fun _ h9 => h9) rfl dX7_shows_64 ?_
            refine lv_iload hx hb dX7_shows_67 (lv_at hl 4 rfl) ?_
            refine q_iN hx hb hK hP 4 0 rfl rfl (k := i) (by omega) (by decide) dX7_shows_69 ?_
            refine lv_iload_n hx hb dX7_shows_70 rfl (lv_at hl 2 rfl) ?_
            refine q_eqNO (tgt := 78) hx hb (k := (svr i)) (o := ot) (by omega) (hotb) dX7_shows_71 (by decide) (fun c71 => ?_) (fun c71 => ?_)
            · refine lv_iconst (v := nI 0) hx hb dX7_shows_78 (by decide) ?_
              refine lv_istore_n (lv' := [(3, .int (nI 0)), (0, .ref m0), (1, .int (nI re)), (2, .int (oI ot)), (4, .int (nI i))]) hx hb dX7_shows_79 rfl hl (by decide) rfl (fun ls hl => ?_)
              refine lv_iinc (v := nI (i + 1)) (lv' := [(4, .int (nI (i + 1))), (3, .int (nI 0)), (0, .ref m0), (1, .int (nI re)), (2, .int (oI ot))]) hx hb dX7_shows_80 hl (k := 4) rfl (q_inc i 1) (by decide) rfl (fun ls hl => ?_)
              refine lv_goto (tgt := 50) hx hb dX7_shows_83 (by decide) ?_
              refine ih50 false (i + 1) _ _ _ ?_ ?_ (by omega) hP hD hS (lv_sub hl [2, 3, 4, 1, 0] rfl)
              · omega
              · first | exact shwI_no hh c60 | exact shwI_hit hh c56 (hsv.2 i c56) c71 | exact shwI_go hh c60 c56 (hsv.2 i c56) c71
            · refine lv_iconst (v := nI 1) hx hb dX7_shows_74 (by decide) ?_
              refine lv_goto (tgt := 79) hx hb dX7_shows_75 (by decide) ?_
              refine lv_istore_n (lv' := [(3, .int (nI 1)), (0, .ref m0), (1, .int (nI re)), (2, .int (oI ot)), (4, .int (nI i))]) hx hb dX7_shows_79 rfl hl (by decide) rfl (fun ls hl => ?_)
              refine lv_iinc (v := nI (i + 1)) (lv' := [(4, .int (nI (i + 1))), (3, .int (nI 1)), (0, .ref m0), (1, .int (nI re)), (2, .int (oI ot))]) hx hb dX7_shows_80 hl (k := 4) rfl (q_inc i 1) (by decide) rfl (fun ls hl => ?_)
              refine lv_goto (tgt := 50) hx hb dX7_shows_83 (by decide) ?_
              refine ih50 true (i + 1) _ _ _ ?_ ?_ (by omega) hP hD hS (lv_sub hl [2, 3, 4, 1, 0] rfl)
              · omega
              · first | exact shwI_no hh c60 | exact shwI_hit hh c56 (hsv.2 i c56) c71 | exact shwI_go hh c60 c56 (hsv.2 i c56) c71
    refine L50 _ cn 0 _ _ _ ?_ ?_ (Nat.lt_succ_self _) hP hD hS (lv_sub hl [2, 3, 4, 1, 0] rfl)
    · omega
    · exact shwI_0 sv ot cn
  refine lv_iload_n hx hb dX7_shows_0 rfl (lv_at hl 2 rfl) ?_
  refine lv_iconst (v := oI none) hx hb dX7_shows_1 (by decide) ?_
  refine q_eqOn (tgt := 45) hx hb (o := ot) (hotb) dX7_shows_2 (by decide) (fun c2 => ?_) (fun c2 => ?_)
  · refine lv_iconst (v := nI 0) hx hb dX7_shows_45 (by decide) ?_
    refine q_as (show nI 0 = bI false from rfl) ?_
    refine L46 false _ _ _ ?_ hP hD hS (lv_sub hl [0, 1, 2] rfl)
    · first | exact shwC_n0 c2 | exact shwC_n1 c7 | exact shwC_n2 c16 | exact shwC_n3 ((hon jo hjo).symm.trans c25) | exact shwC_n4 c38 | exact shwC_y c16 c7 ((hon jo hjo).symm.trans c25) c38
  · refine lv_iload_n hx hb dX7_shows_5 rfl (lv_at hl 2 rfl) ?_
    refine lv_iload_n hx hb dX7_shows_6 rfl (lv_at hl 1 rfl) ?_
    refine q_eqON (tgt := 45) hx hb (o := ot) (k := re) (hotb) (by omega) dX7_shows_7 (by decide) (fun c7 => ?_) (fun c7 => ?_)
    · refine lv_iconst (v := nI 0) hx hb dX7_shows_45 (by decide) ?_
      refine q_as (show nI 0 = bI false from rfl) ?_
      refine L46 false _ _ _ ?_ hP hD hS (lv_sub hl [0, 1, 2] rfl)
      · first | exact shwC_n0 c2 | exact shwC_n1 c7 | exact shwC_n2 c16 | exact shwC_n3 ((hon jo hjo).symm.trans c25) | exact shwC_n4 c38 | exact shwC_y c16 c7 ((hon jo hjo).symm.trans c25) c38
    · obtain ⟨jo, rfl⟩ : ∃ j, ot = some j := Option.ne_none_iff_exists'.mp c2
      have hjo := hot jo rfl
      refine lv_aload_n hx hb dX7_shows_10 rfl (lv_at hl 0 rfl) ?_
      refine va_get (D := (dC, dI)) (ci := 7) (v := .ref m1) (C := RX7) (T := TX7) (N := 27) hx hb hts (wX7_shows_X7_u) hown hK hP 0 rfl rfl 4 (by decide) (hts (.fieldLink RX7 16 "ConfroomModel" "isThere" "[Z") (wX7_shows_f16)) (fun _ h9 => h9) rfl dX7_shows_11 ?_
      refine lv_iload_n hx hb dX7_shows_14 rfl (lv_at hl 2 rfl) ?_
      refine q_zB hx hb hK hP 1 1 rfl rfl (k := jo) (by omega) (by decide) dX7_shows_15 ?_
      refine q_zeq (tgt := 45) hx hb (b := (he jo)) dX7_shows_16 (by decide) (fun c16 => ?_) (fun c16 => ?_)
      · refine lv_iconst (v := nI 0) hx hb dX7_shows_45 (by decide) ?_
        refine q_as (show nI 0 = bI false from rfl) ?_
        refine L46 false _ _ _ ?_ hP hD hS (lv_sub hl [0, 1, 2] rfl)
        · first | exact shwC_n0 c2 | exact shwC_n1 c7 | exact shwC_n2 c16 | exact shwC_n3 ((hon jo hjo).symm.trans c25) | exact shwC_n4 c38 | exact shwC_y c16 c7 ((hon jo hjo).symm.trans c25) c38
      · refine lv_aload_n hx hb dX7_shows_19 rfl (lv_at hl 0 rfl) ?_
        refine va_get (D := (dC, dI)) (ci := 7) (v := .ref m7) (C := RX7) (T := TX7) (N := 27) hx hb hts (wX7_shows_X7_u) hown hK hP 0 rfl rfl 10 (by decide) (hts (.fieldLink RX7 36 "ConfroomModel" "isOn" "[Z") (wX7_shows_f36)) (fun _ h9 => h9) rfl dX7_shows_20 ?_
        refine lv_iload_n hx hb dX7_shows_23 rfl (lv_at hl 2 rfl) ?_
        refine q_zB hx hb hK hP 2 1 rfl rfl (k := jo) (by omega) (by decide) dX7_shows_24 ?_
        refine q_zeq (tgt := 45) hx hb (b := (on jo)) dX7_shows_25 (by decide) (fun c25 => ?_) (fun c25 => ?_)
        · refine lv_iconst (v := nI 0) hx hb dX7_shows_45 (by decide) ?_
          refine q_as (show nI 0 = bI false from rfl) ?_
          refine L46 false _ _ _ ?_ hP hD hS (lv_sub hl [0, 1, 2] rfl)
          · first | exact shwC_n0 c2 | exact shwC_n1 c7 | exact shwC_n2 c16 | exact shwC_n3 ((hon jo hjo).symm.trans c25) | exact shwC_n4 c38 | exact shwC_y c16 c7 ((hon jo hjo).symm.trans c25) c38
        · refine lv_aload_n hx hb dX7_shows_28 rfl (lv_at hl 0 rfl) ?_
          refine va_get (D := (dC, dI)) (ci := 7) (v := .int (nI sv.length)) (C := RX7) (T := TX7) (N := 27) hx hb hts (wX7_shows_X7_u) hown hK hP 0 rfl rfl 24 (by decide) (hts (.fieldLink RX7 82 "ConfroomModel" "seenMany" "I") (wX7_shows_f82)) (fun _ h9 => h9) rfl dX7_shows_29 ?_
          refine lv_aload_n hx hb dX7_shows_32 rfl (lv_at hl 0 rfl) ?_
          refine va_get (D := (dC, dI)) (ci := 7) (v := .ref m5) (C := RX7) (T := TX7) (N := 27) hx hb hts (wX7_shows_X7_u) hown hK hP 0 rfl rfl 8 (by decide) (hts (.fieldLink RX7 30 "ConfroomModel" "placeMany" "[I") (wX7_shows_f30)) (fun _ h9 => h9) rfl dX7_shows_33 ?_
          refine lv_iload_n hx hb dX7_shows_36 rfl (lv_at hl 1 rfl) ?_
          refine q_iN hx hb hK hP 3 0 rfl rfl (k := re) (by omega) (by decide) dX7_shows_37 ?_
          have hv3 := hpl re
          refine q_ge (tgt := 45) hx hb (a := sv.length) (b := (pl re)) (by omega) (by omega) dX7_shows_38 (by decide) (fun c38 => ?_) (fun c38 => ?_)
          · refine lv_iconst (v := nI 0) hx hb dX7_shows_45 (by decide) ?_
            refine q_as (show nI 0 = bI false from rfl) ?_
            refine L46 false _ _ _ ?_ hP hD hS (lv_sub hl [0, 1, 2] rfl)
            · first | exact shwC_n0 c2 | exact shwC_n1 c7 | exact shwC_n2 c16 | exact shwC_n3 ((hon jo hjo).symm.trans c25) | exact shwC_n4 c38 | exact shwC_y c16 c7 ((hon jo hjo).symm.trans c25) c38
          · refine lv_iconst (v := nI 1) hx hb dX7_shows_41 (by decide) ?_
            refine lv_goto (tgt := 46) hx hb dX7_shows_42 (by decide) ?_
            refine q_as (show nI 1 = bI true from rfl) ?_
            refine L46 true _ _ _ ?_ hP hD hS (lv_sub hl [0, 1, 2] rfl)
            · first | exact shwC_n0 c2 | exact shwC_n1 c7 | exact shwC_n2 c16 | exact shwC_n3 ((hon jo hjo).symm.trans c25) | exact shwC_n4 c38 | exact shwC_y c16 c7 ((hon jo hjo).symm.trans c25) c38

set_option maxHeartbeats 4000000 in
set_option maxRecDepth 100000 in
theorem c_X7_shows (l : Launch) (dC : Nat → ClassId) (dI : Nat → Nat → Nat) (cI cZ cG : ClassId) (m0 : Nat) (m1 : Nat) (m2 : Nat) (m3 : Nat) (m4 : Nat) (m5 : Nat) (m6 : Nat) (m7 : Nat) (m8 : Nat) (m9 : Nat) (m10 : Nat) (m11 : Nat) (m12 : Nat) (m13 : Nat) (m14 : Nat) (m15 : Nat) (m16 : Nat) (m17 : Nat) (th : Nat) (tm : Nat) (ho : Nat) (li : Nat) (bn : Nat) (ld : Option Nat) (sp : List Nat) (lo : Option Nat) (rn : Nat) (sv : List Nat) (he : Nat → Bool) (on : Nat → Bool) (pl : Nat → Nat) (svr : Nat → Nat) (pu : List Nat) (re : Nat) (ot : Option Nat) (sz : Nat) (hre : re < 6) (hot : ∀ j, ot = some j → j < 6) (hpl : ∀ k, pl k ≤ 5) (hon : ∀ j, j < 6 → on j = pu.contains j) (hsv : lrep svr sv) : Met l yX7_shows wsX7_shows ({ frames := 0, cells := 0, slots := 0, locals := 0 } : Room) (va_Pc [.ref m0, .int (nI re), .int (oI ot)] (fun U => U.heap.size = sz ∧ va_P (dC, dI) vwCl [(m0, .inr (7, [.int (nI th), .int (nI tm), .int (nI ho), .int (nI li), .ref m1, .ref m2, .ref m3, .ref m4, .ref m5, .ref m6, .ref m7, .ref m8, .int (nI bn), .ref m9, .ref m10, .ref m11, .ref m12, .ref m13, .ref m14, .int (oI ld), .int (nI sp.length), .ref m15, .int (oI lo), .int (nI rn), .int (nI sv.length), .ref m16, .ref m17])), (m1, .inl (cZ, 6, .inl (cB he))), (m7, .inl (cZ, 6, .inl (cB on))), (m5, .inl (cI, 6, .inl (cN pl))), (m16, .inl (cI, 6, .inl (cN svr)))] U.heap ∧ va_K (dC, dI) vwCl [(cI, .int), (cZ, .boolean), (cG, .array .int)] U ∧ va_D (fun _ => True) [(m0, .inr (7, [.int (nI th), .int (nI tm), .int (nI ho), .int (nI li), .ref m1, .ref m2, .ref m3, .ref m4, .ref m5, .ref m6, .ref m7, .ref m8, .int (nI bn), .ref m9, .ref m10, .ref m11, .ref m12, .ref m13, .ref m14, .int (oI ld), .int (nI sp.length), .ref m15, .int (oI lo), .int (nI rn), .int (nI sv.length), .ref m16, .ref m17])), (m1, .inl (cZ, 6, .inl (cB he))), (m7, .inl (cZ, 6, .inl (cB on))), (m5, .inl (cI, 6, .inl (cN pl))), (m16, .inl (cI, 6, .inl (cN svr)))])) (va_Qv (fun (_ : Unit) => True) (fun (_ : Unit) t => ∃ (svr9 : Nat → Nat), (lrep svr9 (showF he pu (pl re) sv re ot)) ∧ va_P (dC, dI) vwCl [(m0, .inr (7, [.int (nI th), .int (nI tm), .int (nI ho), .int (nI li), .ref m1, .ref m2, .ref m3, .ref m4, .ref m5, .ref m6, .ref m7, .ref m8, .int (nI bn), .ref m9, .ref m10, .ref m11, .ref m12, .ref m13, .ref m14, .int (oI ld), .int (nI sp.length), .ref m15, .int (oI lo), .int (nI rn), .int (nI ((showF he pu (pl re) sv re ot).length)), .ref m16, .ref m17])), (m1, .inl (cZ, 6, .inl (cB he))), (m7, .inl (cZ, 6, .inl (cB on))), (m5, .inl (cI, 6, .inl (cN pl))), (m16, .inl (cI, 6, .inl (cN svr9)))] t.heap ∧ va_D (va_A [(m0, .inr (7, [.int (nI th), .int (nI tm), .int (nI ho), .int (nI li), .ref m1, .ref m2, .ref m3, .ref m4, .ref m5, .ref m6, .ref m7, .ref m8, .int (nI bn), .ref m9, .ref m10, .ref m11, .ref m12, .ref m13, .ref m14, .int (oI ld), .int (nI sp.length), .ref m15, .int (oI lo), .int (nI rn), .int (nI sv.length), .ref m16, .ref m17])), (m1, .inl (cZ, 6, .inl (cB he))), (m7, .inl (cZ, 6, .inl (cB on))), (m5, .inl (cI, 6, .inl (cN pl))), (m16, .inl (cI, 6, .inl (cN svr)))] sz) [(m0, .inr (7, [.int (nI th), .int (nI tm), .int (nI ho), .int (nI li), .ref m1, .ref m2, .ref m3, .ref m4, .ref m5, .ref m6, .ref m7, .ref m8, .int (nI bn), .ref m9, .ref m10, .ref m11, .ref m12, .ref m13, .ref m14, .int (oI ld), .int (nI sp.length), .ref m15, .int (oI lo), .int (nI rn), .int (nI ((showF he pu (pl re) sv re ot).length)), .ref m16, .ref m17])), (m1, .inl (cZ, 6, .inl (cB he))), (m7, .inl (cZ, 6, .inl (cB on))), (m5, .inl (cI, 6, .inl (cN pl))), (m16, .inl (cI, 6, .inl (cN svr9)))]) (va_A [(m0, .inr (7, [.int (nI th), .int (nI tm), .int (nI ho), .int (nI li), .ref m1, .ref m2, .ref m3, .ref m4, .ref m5, .ref m6, .ref m7, .ref m8, .int (nI bn), .ref m9, .ref m10, .ref m11, .ref m12, .ref m13, .ref m14, .int (oI ld), .int (nI sp.length), .ref m15, .int (oI lo), .int (nI rn), .int (nI sv.length), .ref m16, .ref m17])), (m1, .inl (cZ, 6, .inl (cB he))), (m7, .inl (cZ, 6, .inl (cB on))), (m5, .inl (cI, 6, .inl (cN pl))), (m16, .inl (cI, 6, .inl (cN svr)))] sz)) 0 0 (va_A [(m0, .inr (7, [.int (nI th), .int (nI tm), .int (nI ho), .int (nI li), .ref m1, .ref m2, .ref m3, .ref m4, .ref m5, .ref m6, .ref m7, .ref m8, .int (nI bn), .ref m9, .ref m10, .ref m11, .ref m12, .ref m13, .ref m14, .int (oI ld), .int (nI sp.length), .ref m15, .int (oI lo), .int (nI rn), .int (nI sv.length), .ref m16, .ref m17])), (m1, .inl (cZ, 6, .inl (cB he))), (m7, .inl (cZ, 6, .inl (cB on))), (m5, .inl (cI, 6, .inl (cN pl))), (m16, .inl (cI, 6, .inl (cN svr)))] sz) := by
  refine Met.ofW (cc := cX7_shows) (maxL := 5) (ret := none) (by decide) rfl ?_
  intro p e s m args below meth c s₁ B hml hv
  obtain ⟨rfl, hsz, hP, hK, hD0⟩ := hv
  have hts := atoms_spec (ws := wsX7_shows) B.pre
  have hown : s.vm.findClass RX7 = some m.cls := findClass_of_methodNamed B.named
  have hlocks := B.notSynchronized
  subst hsz
  have hD := hD0.self (sz := s.heap.size)
  have hA : ∀ q : Nat, s.heap.size ≤ q → va_A [(m0, .inr (7, [.int (nI th), .int (nI tm), .int (nI ho), .int (nI li), .ref m1, .ref m2, .ref m3, .ref m4, .ref m5, .ref m6, .ref m7, .ref m8, .int (nI bn), .ref m9, .ref m10, .ref m11, .ref m12, .ref m13, .ref m14, .int (oI ld), .int (nI sp.length), .ref m15, .int (oI lo), .int (nI rn), .int (nI sv.length), .ref m16, .ref m17])), (m1, .inl (cZ, 6, .inl (cB he))), (m7, .inl (cZ, 6, .inl (cB on))), (m5, .inl (cI, 6, .inl (cN pl))), (m16, .inl (cI, 6, .inl (cN svr)))] s.heap.size q := fun q h => Or.inr h
  have hl := lv_entry ([.ref m0, .int (nI re), .int (oI ot)]) (n := 5) (Nat.le_of_ble_eq_true rfl)
  rw [lg_entry_eq]
  generalize (lg_sl ([.ref m0, .int (nI re), .int (oI ot)]) ++ List.replicate (5 - (lg_sl ([.ref m0, .int (nI re), .int (oI ot)])).length) Slot.unset).toArray = ls at hl ⊢
  have hl : lv_has ls 5 [(0, .ref m0), (1, .int (nI re)), (2, .int (oI ot))] := hl
  have hx := B.exec
  have hb := B.bytes
  exact b_X7_shows hx hb hml hown hts hK hA m0 m1 m2 m3 m4 m5 m6 m7 m8 m9 m10 m11 m12 m13 m14 m15 m16 m17 th tm ho li bn ld sp lo rn sv he on pl svr pu re ot hre hot hpl hon hsv  hP hD va_S.rf hl (fun pcr H locs ls svr9 hp0 hd hP hD hS => W.vret hx hb B.returns (fun t ht hW => ⟨⟨(), rfl, trivial, svr9, hp0, by rw [ht]; exact hP, hD⟩, hS.F ht⟩) hS.2.2 hd)
