theorem wX1_init_a_int : Cond.arrayClass .int ∈ wsX1_init := by decide +kernel
theorem wX1_init_f15 : Cond.fieldLink RX1 15 "Confroom$Line" "count" "I" ∈ wsX1_init := by decide +kernel
theorem wX1_init_f9 : Cond.fieldLink RX1 9 "Confroom$Line" "row" "[I" ∈ wsX1_init := by decide +kernel
theorem wX1_init_oi1 : Cond.methodLink RX1 3 objectInit ∈ wsX1_init := by decide +kernel
theorem wX1_init_oi2 : Cond.instanceMethod objectInit ∈ wsX1_init := by decide +kernel
theorem wX1_init_oi3 : Cond.code objectInit ⟨#[0xb1]⟩ 1 none ∈ wsX1_init := by decide +kernel
theorem wX1_init_X1_u : ∀ w ∈ u_ws RX1 TX1 2, w ∈ wsX1_init := by decide +kernel
set_option maxHeartbeats 4000000 in
set_option maxRecDepth 100000 in
theorem b_X1_init {p : Program} {l : Launch} {e : Env} {s : State} {m : MethodId} {args : Array Value} {below : List Frame} {meth : Method} {c : Code} {Q : State → Prop} {A : Nat → Prop} {dC : Nat → ClassId} {dI : Nat → Nat → Nat} {cI cZ cG : ClassId} (hx : p.tables.exec = Jvm.exec) (hb : c.code = cX1_init) (hml : c.maxLocals = 1) (hown : s.vm.findClass RX1 = some m.cls) (hin : meth.name = "<init>") (hts : ∀ w ∈ wsX1_init, w.before args s = true) (hK : va_K (dC, dI) vwCl [(cI, .int), (cZ, .boolean), (cG, .array .int)] s) (hA : ∀ q : Nat, s.heap.size ≤ q → A q) (h0 : Nat)   {H : Heap} {locs : List Loc} {ls : Array Slot} (hP : va_P (dC, dI) vwCl [(h0, .inr (1, [.null, .int (nI 0)]))] H) (hD : va_D A [(h0, .inr (1, [.null, .int (nI 0)]))]) (hS : va_S A s.heap H locs) (hl : lv_has ls 1 [(0, .ref h0)]) (kret : ∀ (pcr : Nat) (H : Heap) (locs : List Loc) (ls : Array Slot) (h1 : Nat), decode cX1_init pcr = .ok (.return_, 1) → va_P (dC, dI) vwCl [(h0, .inr (1, [.ref h1, .int (nI 0)])), (h1, .inl (cI, 6, .inl (cN (fun _ => 0))))] H → va_D A [(h0, .inr (1, [.ref h1, .int (nI 0)])), (h1, .inl (cI, 6, .inl (cN (fun _ => 0))))] → va_S A s.heap H locs → W p l e ({ frames := 1, cells := 1, slots := 6, locals := 12 } : Room) s m args below meth c H locs 1 6 Q (F0 m pcr ls [])) : W p l e ({ frames := 1, cells := 1, slots := 6, locals := 12 } : Room) s m args below meth c H locs 0 0 Q (F0 m 0 ls []) := by
  refine lv_aload_n hx hb dX1_init_0 rfl (lv_at hl 0 rfl) ?_
  refine W.objInit hx hb hown (hts (.methodLink RX1 3 objectInit) (wX1_init_oi1)) (hts (.instanceMethod objectInit) (wX1_init_oi2)) (hts (.code objectInit ⟨#[0xb1]⟩ 1 none) (wX1_init_oi3)) rfl (by rw [hml]; exact hl.1) rfl dX1_init_1 (Nat.le_of_ble_eq_true rfl) (Nat.le_of_ble_eq_true rfl) ?_
  refine W.eq (g2 := F0 m 4 ls []) rfl ?_
  refine lv_aload_n hx hb dX1_init_4 rfl (lv_at hl 0 rfl) ?_
  refine lv_bipush (v := nI 6) hx hb dX1_init_5 (by decide) ?_
  refine q_newN hx hb (hts _ wX1_init_a_int) hK hP hD hS hA (cN (fun _ => 0)) (fun _ => rfl) (Nat.le_of_ble_eq_true rfl) (Nat.le_of_ble_eq_true rfl) dX1_init_7 (fun h1 H locs hP hD hS => ?_)
  have hP : va_P (dC, dI) vwCl [(h0, .inr (1, [.null, .int (nI 0)])), (h1, .inl (cI, 6, .inl (cN (fun _ => 0))))] H := hP
  have hD : va_D A [(h0, .inr (1, [.null, .int (nI 0)])), (h1, .inl (cI, 6, .inl (cN (fun _ => 0))))] := hD
  refine va_putF (D := (dC, dI)) (ci := 1) (v := .ref h1) (ty := (.array .int)) (C := RX1) (T := TX1) (N := 2) hx hb hts (wX1_init_X1_u) tyX1 tyX1_ok nmX1 hown hK hP hD hS 0 rfl rfl 0 (by decide) (hts (.fieldLink RX1 9 "Confroom$Line" "row" "[I") (wX1_init_f9)) (fun _ h9 => h9) rfl hin rfl (by decide +kernel) rfl rfl (Nat.le_of_ble_eq_true rfl) dX1_init_9 (fun H locs hP hD hS => ?_)
  have hP : va_P (dC, dI) vwCl [(h0, .inr (1, [.ref h1, .int (nI 0)])), (h1, .inl (cI, 6, .inl (cN (fun _ => 0))))] H := hP
  have hD : va_D A [(h0, .inr (1, [.ref h1, .int (nI 0)])), (h1, .inl (cI, 6, .inl (cN (fun _ => 0))))] := hD
  refine lv_aload_n hx hb dX1_init_12 rfl (lv_at hl 0 rfl) ?_
  refine lv_iconst (v := nI 0) hx hb dX1_init_13 (by decide) ?_
  refine va_put (D := (dC, dI)) (ci := 1) (v := .int (nI 0)) (ty := .int) (C := RX1) (T := TX1) (N := 2) hx hb hts (wX1_init_X1_u) tyX1 tyX1_ok nmX1 hown hK hP hD hS 0 rfl rfl 1 (by decide) (hts (.fieldLink RX1 15 "Confroom$Line" "count" "I") (wX1_init_f15)) (fun _ h9 => h9) rfl (by decide +kernel) rfl rfl (Nat.le_of_ble_eq_true rfl) dX1_init_14 (fun H locs hP hD hS => ?_)
  have hP : va_P (dC, dI) vwCl [(h0, .inr (1, [.ref h1, .int (nI 0)])), (h1, .inl (cI, 6, .inl (cN (fun _ => 0))))] H := hP
  have hD : va_D A [(h0, .inr (1, [.ref h1, .int (nI 0)])), (h1, .inl (cI, 6, .inl (cN (fun _ => 0))))] := hD
  refine kret 17 _ _ _ h1  dX1_init_17 hP hD hS

set_option maxHeartbeats 4000000 in
set_option maxRecDepth 100000 in
theorem c_X1_init (l : Launch) (dC : Nat → ClassId) (dI : Nat → Nat → Nat) (cI cZ cG : ClassId) (h0 : Nat) (sz : Nat)  : Met l yX1_init wsX1_init ({ frames := 1, cells := 1, slots := 6, locals := 12 } : Room) (va_Pc [.ref h0] (fun U => U.heap.size = sz ∧ va_P (dC, dI) vwCl [(h0, .inr (1, [.null, .int (nI 0)]))] U.heap ∧ va_K (dC, dI) vwCl [(cI, .int), (cZ, .boolean), (cG, .array .int)] U ∧ va_D (fun _ => True) [(h0, .inr (1, [.null, .int (nI 0)]))])) (va_Qv (fun (_ : Unit) => True) (fun (_ : Unit) t => ∃ (h1 : Nat), va_P (dC, dI) vwCl [(h0, .inr (1, [.ref h1, .int (nI 0)])), (h1, .inl (cI, 6, .inl (cN (fun _ => 0))))] t.heap ∧ va_D (va_A [(h0, .inr (1, [.null, .int (nI 0)]))] sz) [(h0, .inr (1, [.ref h1, .int (nI 0)])), (h1, .inl (cI, 6, .inl (cN (fun _ => 0))))]) (va_A [(h0, .inr (1, [.null, .int (nI 0)]))] sz)) 1 6 (va_A [(h0, .inr (1, [.null, .int (nI 0)]))] sz) := by
  refine Met.ofW (cc := cX1_init) (maxL := 1) (ret := none) (by decide) rfl ?_
  intro p e s m args below meth c s₁ B hml hv
  obtain ⟨rfl, hsz, hP, hK, hD0⟩ := hv
  have hts := atoms_spec (ws := wsX1_init) B.pre
  have hown : s.vm.findClass RX1 = some m.cls := findClass_of_methodNamed B.named
  have hlocks := B.notSynchronized
  have hin : meth.name = "<init>" := (name_of_methodNamed B.named B.method).1
  subst hsz
  have hD := hD0.self (sz := s.heap.size)
  have hA : ∀ q : Nat, s.heap.size ≤ q → va_A [(h0, .inr (1, [.null, .int (nI 0)]))] s.heap.size q := fun q h => Or.inr h
  have hl := lv_entry ([.ref h0]) (n := 1) (Nat.le_of_ble_eq_true rfl)
  rw [lg_entry_eq]
  generalize (lg_sl ([.ref h0]) ++ List.replicate (1 - (lg_sl ([.ref h0])).length) Slot.unset).toArray = ls at hl ⊢
  have hl : lv_has ls 1 [(0, .ref h0)] := hl
  have hx := B.exec
  have hb := B.bytes
  exact b_X1_init hx hb hml hown hin hts hK hA h0   hP hD va_S.rf hl (fun pcr H locs ls h1  hd hP hD hS => W.vret hx hb B.returns (fun t ht hW => ⟨⟨(), rfl, trivial, h1, by rw [ht]; exact hP, hD⟩, hS.F ht⟩) hS.2.2 hd)
theorem wX0_init_a_boolean : Cond.arrayClass .boolean ∈ wsX0_init := by decide +kernel
theorem wX0_init_a_int : Cond.arrayClass .int ∈ wsX0_init := by decide +kernel
theorem wX0_init_c22 : Cond.classLink RX0 22 RX1 ∈ wsX0_init := by decide +kernel
theorem wX0_init_f15 : Cond.fieldLink RX0 15 "Confroom$Floor" "level" "[I" ∈ wsX0_init := by decide +kernel
theorem wX0_init_f19 : Cond.fieldLink RX0 19 "Confroom$Floor" "muted" "[Z" ∈ wsX0_init := by decide +kernel
theorem wX0_init_f25 : Cond.fieldLink RX0 25 "Confroom$Floor" "spoke" "LConfroom$Line;" ∈ wsX0_init := by decide +kernel
theorem wX0_init_f29 : Cond.fieldLink RX0 29 "Confroom$Floor" "leader" "I" ∈ wsX0_init := by decide +kernel
theorem wX0_init_f33 : Cond.fieldLink RX0 33 "Confroom$Floor" "hold" "I" ∈ wsX0_init := by decide +kernel
theorem wX0_init_f36 : Cond.fieldLink RX0 36 "Confroom$Floor" "loudest" "I" ∈ wsX0_init := by decide +kernel
theorem wX0_init_f39 : Cond.fieldLink RX0 39 "Confroom$Floor" "loudSeconds" "I" ∈ wsX0_init := by decide +kernel
theorem wX0_init_f9 : Cond.fieldLink RX0 9 "Confroom$Floor" "here" "[Z" ∈ wsX0_init := by decide +kernel
theorem wX0_init_m_X1_init : Cond.instanceMethod yX1_init ∈ wsX0_init := by decide +kernel
theorem wX0_init_i_X1 : Cond.instantiable RX1 2 ∈ wsX0_init := by decide +kernel
theorem wX0_init_j_X1 : Cond.initialized RX1 ∈ wsX0_init := by decide +kernel
theorem wX0_init_oi1 : Cond.methodLink RX0 3 objectInit ∈ wsX0_init := by decide +kernel
theorem wX0_init_oi2 : Cond.instanceMethod objectInit ∈ wsX0_init := by decide +kernel
theorem wX0_init_oi3 : Cond.code objectInit ⟨#[0xb1]⟩ 1 none ∈ wsX0_init := by decide +kernel
theorem wX0_init_X0_u : ∀ w ∈ u_ws RX0 TX0 8, w ∈ wsX0_init := by decide +kernel
theorem wX0_init_X1_u : ∀ w ∈ u_ws RX1 TX1 2, w ∈ wsX0_init := by decide +kernel
set_option maxHeartbeats 4000000 in
set_option maxRecDepth 100000 in
theorem b_X0_init {p : Program} {l : Launch} {e : Env} {s : State} {m : MethodId} {args : Array Value} {below : List Frame} {meth : Method} {c : Code} {Q : State → Prop} {A : Nat → Prop} {dC : Nat → ClassId} {dI : Nat → Nat → Nat} {cI cZ cG : ClassId} (hx : p.tables.exec = Jvm.exec) (hb : c.code = cX0_init) (hml : c.maxLocals = 1) (hown : s.vm.findClass RX0 = some m.cls) (hin : meth.name = "<init>") (hts : ∀ w ∈ wsX0_init, w.before args s = true) (hK : va_K (dC, dI) vwCl [(cI, .int), (cZ, .boolean), (cG, .array .int)] s) (hA : ∀ q : Nat, s.heap.size ≤ q → A q) (f0 : Nat)  (hN : nX0 s) {H : Heap} {locs : List Loc} {ls : Array Slot} (hP : va_P (dC, dI) vwCl [(f0, .inr (0, [.null, .null, .null, .null, .int (nI 0), .int (nI 0), .int (nI 0), .int (nI 0)]))] H) (hD : va_D A [(f0, .inr (0, [.null, .null, .null, .null, .int (nI 0), .int (nI 0), .int (nI 0), .int (nI 0)]))]) (hS : va_S A s.heap H locs) (hl : lv_has ls 1 [(0, .ref f0)]) (kret : ∀ (pcr : Nat) (H : Heap) (locs : List Loc) (ls : Array Slot) (f1 : Nat) (f2 : Nat) (f3 : Nat) (s0 : Nat) (s1 : Nat), decode cX0_init pcr = .ok (.return_, 1) → va_P (dC, dI) vwCl [(f0, .inr (0, [.ref f1, .ref f2, .ref f3, .ref s0, .int (oI none), .int (nI 2), .int (oI none), .int (nI 0)])), (f1, .inl (cZ, 6, .inl (cB (fun _ => false)))), (f2, .inl (cI, 6, .inl (cN (fun _ => 0)))), (f3, .inl (cZ, 6, .inl (cB (fun _ => false)))), (s0, .inr (1, [.ref s1, .int (nI 0)])), (s1, .inl (cI, 6, .inl (cN (fun _ => 0))))] H → va_D A [(f0, .inr (0, [.ref f1, .ref f2, .ref f3, .ref s0, .int (oI none), .int (nI 2), .int (oI none), .int (nI 0)])), (f1, .inl (cZ, 6, .inl (cB (fun _ => false)))), (f2, .inl (cI, 6, .inl (cN (fun _ => 0)))), (f3, .inl (cZ, 6, .inl (cB (fun _ => false)))), (s0, .inr (1, [.ref s1, .int (nI 0)])), (s1, .inl (cI, 6, .inl (cN (fun _ => 0))))] → va_S A s.heap H locs → W p l e ({ frames := 2, cells := 5, slots := 26, locals := 32 } : Room) s m args below meth c H locs 5 26 Q (F0 m pcr ls [])) : W p l e ({ frames := 2, cells := 5, slots := 26, locals := 32 } : Room) s m args below meth c H locs 0 0 Q (F0 m 0 ls []) := by
  refine lv_aload_n hx hb dX0_init_0 rfl (lv_at hl 0 rfl) ?_
  refine W.objInit hx hb hown (hts (.methodLink RX0 3 objectInit) (wX0_init_oi1)) (hts (.instanceMethod objectInit) (wX0_init_oi2)) (hts (.code objectInit ⟨#[0xb1]⟩ 1 none) (wX0_init_oi3)) rfl (by rw [hml]; exact hl.1) rfl dX0_init_1 (Nat.le_of_ble_eq_true rfl) (Nat.le_of_ble_eq_true rfl) ?_
  refine W.eq (g2 := F0 m 4 ls []) rfl ?_
  refine lv_aload_n hx hb dX0_init_4 rfl (lv_at hl 0 rfl) ?_
  refine lv_bipush (v := nI 6) hx hb dX0_init_5 (by decide) ?_
  refine q_newB hx hb (hts _ wX0_init_a_boolean) hK hP hD hS hA (cB (fun _ => false)) (fun _ => rfl) (Nat.le_of_ble_eq_true rfl) (Nat.le_of_ble_eq_true rfl) dX0_init_7 (fun f1 H locs hP hD hS => ?_)
  have hP : va_P (dC, dI) vwCl [(f0, .inr (0, [.null, .null, .null, .null, .int (nI 0), .int (nI 0), .int (nI 0), .int (nI 0)])), (f1, .inl (cZ, 6, .inl (cB (fun _ => false))))] H := hP
  have hD : va_D A [(f0, .inr (0, [.null, .null, .null, .null, .int (nI 0), .int (nI 0), .int (nI 0), .int (nI 0)])), (f1, .inl (cZ, 6, .inl (cB (fun _ => false))))] := hD
  refine va_putF (D := (dC, dI)) (ci := 0) (v := .ref f1) (ty := (.array .boolean)) (C := RX0) (T := TX0) (N := 8) hx hb hts (wX0_init_X0_u) tyX0 tyX0_ok nmX0 hown hK hP hD hS 0 rfl rfl 0 (by decide) (hts (.fieldLink RX0 9 "Confroom$Floor" "here" "[Z") (wX0_init_f9)) (fun _ h9 => h9) rfl hin rfl (by decide +kernel) rfl rfl (Nat.le_of_ble_eq_true rfl) dX0_init_9 (fun H locs hP hD hS => ?_)
  have hP : va_P (dC, dI) vwCl [(f0, .inr (0, [.ref f1, .null, .null, .null, .int (nI 0), .int (nI 0), .int (nI 0), .int (nI 0)])), (f1, .inl (cZ, 6, .inl (cB (fun _ => false))))] H := hP
  have hD : va_D A [(f0, .inr (0, [.ref f1, .null, .null, .null, .int (nI 0), .int (nI 0), .int (nI 0), .int (nI 0)])), (f1, .inl (cZ, 6, .inl (cB (fun _ => false))))] := hD
  refine lv_aload_n hx hb dX0_init_12 rfl (lv_at hl 0 rfl) ?_
  refine lv_bipush (v := nI 6) hx hb dX0_init_13 (by decide) ?_
  refine q_newN hx hb (hts _ wX0_init_a_int) hK hP hD hS hA (cN (fun _ => 0)) (fun _ => rfl) (Nat.le_of_ble_eq_true rfl) (Nat.le_of_ble_eq_true rfl) dX0_init_15 (fun f2 H locs hP hD hS => ?_)
  have hP : va_P (dC, dI) vwCl [(f0, .inr (0, [.ref f1, .null, .null, .null, .int (nI 0), .int (nI 0), .int (nI 0), .int (nI 0)])), (f1, .inl (cZ, 6, .inl (cB (fun _ => false)))), (f2, .inl (cI, 6, .inl (cN (fun _ => 0))))] H := hP
  have hD : va_D A [(f0, .inr (0, [.ref f1, .null, .null, .null, .int (nI 0), .int (nI 0), .int (nI 0), .int (nI 0)])), (f1, .inl (cZ, 6, .inl (cB (fun _ => false)))), (f2, .inl (cI, 6, .inl (cN (fun _ => 0))))] := hD
  refine va_putF (D := (dC, dI)) (ci := 0) (v := .ref f2) (ty := (.array .int)) (C := RX0) (T := TX0) (N := 8) hx hb hts (wX0_init_X0_u) tyX0 tyX0_ok nmX0 hown hK hP hD hS 0 rfl rfl 1 (by decide) (hts (.fieldLink RX0 15 "Confroom$Floor" "level" "[I") (wX0_init_f15)) (fun _ h9 => h9) rfl hin rfl (by decide +kernel) rfl rfl (Nat.le_of_ble_eq_true rfl) dX0_init_17 (fun H locs hP hD hS => ?_)
  have hP : va_P (dC, dI) vwCl [(f0, .inr (0, [.ref f1, .ref f2, .null, .null, .int (nI 0), .int (nI 0), .int (nI 0), .int (nI 0)])), (f1, .inl (cZ, 6, .inl (cB (fun _ => false)))), (f2, .inl (cI, 6, .inl (cN (fun _ => 0))))] H := hP
  have hD : va_D A [(f0, .inr (0, [.ref f1, .ref f2, .null, .null, .int (nI 0), .int (nI 0), .int (nI 0), .int (nI 0)])), (f1, .inl (cZ, 6, .inl (cB (fun _ => false)))), (f2, .inl (cI, 6, .inl (cN (fun _ => 0))))] := hD
  refine lv_aload_n hx hb dX0_init_20 rfl (lv_at hl 0 rfl) ?_
  refine lv_bipush (v := nI 6) hx hb dX0_init_21 (by decide) ?_
  refine q_newB hx hb (hts _ wX0_init_a_boolean) hK hP hD hS hA (cB (fun _ => false)) (fun _ => rfl) (Nat.le_of_ble_eq_true rfl) (Nat.le_of_ble_eq_true rfl) dX0_init_23 (fun f3 H locs hP hD hS => ?_)
  have hP : va_P (dC, dI) vwCl [(f0, .inr (0, [.ref f1, .ref f2, .null, .null, .int (nI 0), .int (nI 0), .int (nI 0), .int (nI 0)])), (f1, .inl (cZ, 6, .inl (cB (fun _ => false)))), (f2, .inl (cI, 6, .inl (cN (fun _ => 0)))), (f3, .inl (cZ, 6, .inl (cB (fun _ => false))))] H := hP
  have hD : va_D A [(f0, .inr (0, [.ref f1, .ref f2, .null, .null, .int (nI 0), .int (nI 0), .int (nI 0), .int (nI 0)])), (f1, .inl (cZ, 6, .inl (cB (fun _ => false)))), (f2, .inl (cI, 6, .inl (cN (fun _ => 0)))), (f3, .inl (cZ, 6, .inl (cB (fun _ => false))))] := hD
  refine va_putF (D := (dC, dI)) (ci := 0) (v := .ref f3) (ty := (.array .boolean)) (C := RX0) (T := TX0) (N := 8) hx hb hts (wX0_init_X0_u) tyX0 tyX0_ok nmX0 hown hK hP hD hS 0 rfl rfl 2 (by decide) (hts (.fieldLink RX0 19 "Confroom$Floor" "muted" "[Z") (wX0_init_f19)) (fun _ h9 => h9) rfl hin rfl (by decide +kernel) rfl rfl (Nat.le_of_ble_eq_true rfl) dX0_init_25 (fun H locs hP hD hS => ?_)
  have hP : va_P (dC, dI) vwCl [(f0, .inr (0, [.ref f1, .ref f2, .ref f3, .null, .int (nI 0), .int (nI 0), .int (nI 0), .int (nI 0)])), (f1, .inl (cZ, 6, .inl (cB (fun _ => false)))), (f2, .inl (cI, 6, .inl (cN (fun _ => 0)))), (f3, .inl (cZ, 6, .inl (cB (fun _ => false))))] H := hP
  have hD : va_D A [(f0, .inr (0, [.ref f1, .ref f2, .ref f3, .null, .int (nI 0), .int (nI 0), .int (nI 0), .int (nI 0)])), (f1, .inl (cZ, 6, .inl (cB (fun _ => false)))), (f2, .inl (cI, 6, .inl (cN (fun _ => 0)))), (f3, .inl (cZ, 6, .inl (cB (fun _ => false))))] := hD
  refine lv_aload_n hx hb dX0_init_28 rfl (lv_at hl 0 rfl) ?_
  refine va_new (D := (dC, dI)) (ci := 1) (fs := [.null, .int (nI 0)]) (C := RX1) (T := TX1) (N := 2) hx hb hts (wX0_init_X1_u) tyX1 tyX1_ok hown (hts _ wX0_init_c22) (hts _ wX0_init_i_X1) (hts _ wX0_init_j_X1) hK hP hD hS hA rfl (fun j hj => by match j, hj with | 0, _ => rfl | 1, _ => rfl) (Nat.le_of_ble_eq_true rfl) (Nat.le_of_ble_eq_true rfl) dX0_init_29 (fun s0 H hP hD hS => ?_)
  have hP : va_P (dC, dI) vwCl [(f0, .inr (0, [.ref f1, .ref f2, .ref f3, .null, .int (nI 0), .int (nI 0), .int (nI 0), .int (nI 0)])), (f1, .inl (cZ, 6, .inl (cB (fun _ => false)))), (f2, .inl (cI, 6, .inl (cN (fun _ => 0)))), (f3, .inl (cZ, 6, .inl (cB (fun _ => false)))), (s0, .inr (1, [.null, .int (nI 0)]))] H := hP
  have hD : va_D A [(f0, .inr (0, [.ref f1, .ref f2, .ref f3, .null, .int (nI 0), .int (nI 0), .int (nI 0), .int (nI 0)])), (f1, .inl (cZ, 6, .inl (cB (fun _ => false)))), (f2, .inl (cI, 6, .inl (cN (fun _ => 0)))), (f3, .inl (cZ, 6, .inl (cB (fun _ => false)))), (s0, .inr (1, [.null, .int (nI 0)]))] := hD
  refine lv_dup hx hb dX0_init_32 rfl ?_
  have hPc := hP.sub (ws' := [(s0, .inr (1, [.null, .int (nI 0)]))]) [4] rfl
  have hDc := hD.sub (ws' := [(s0, .inr (1, [.null, .int (nI 0)]))]) [4] (by decide) rfl
  have hFc := va_free (wc := [(s0, .inr (1, [.null, .int (nI 0)]))]) hD hS hA [4] rfl
  refine va_callv (va_runIN (As := []) (rest := [.ref s0, .ref f0]) ⟨hx, hb, hml, hown, hts⟩ (c_X1_init l dC dI cI cZ cG s0 H.size ) ⟨va_cnB 0 hts gX0_init_X1_init_n24 rfl rfl rfl (hN) (hts _ wX0_init_j_X1) ⟨by decide, by decide, by decide +kernel⟩ ⟨Nat.le_of_ble_eq_true rfl, Nat.le_of_ble_eq_true rfl⟩, rfl, hts _ wX0_init_m_X1_init⟩ ⟨fun a U g mk q => q_blind q, fun U hU hW => ⟨rfl, by rw [hU], by rw [hU]; exact hPc, va_K.moved hW.alike hK, hDc.weaken (fun _ _ _ _ => trivial)⟩⟩ rfl rfl hl.1 rfl (lv_room (Nat.le_of_ble_eq_true rfl)) dX0_init_33 ⟨by decide, by decide⟩) hS (fun q _ h => hFc q h) hFc (fun u t H1 locs ht hvm hw hB hz1 hk1 hS => ?_)
  obtain ⟨s1,  hP1, hD1⟩ := hB
  rw [ht] at hP1
  obtain ⟨hP, hD⟩ := va_join (wr := [(f0, .inr (0, [.ref f1, .ref f2, .ref f3, .null, .int (nI 0), .int (nI 0), .int (nI 0), .int (nI 0)])), (f1, .inl (cZ, 6, .inl (cB (fun _ => false)))), (f2, .inl (cI, 6, .inl (cN (fun _ => 0)))), (f3, .inl (cZ, 6, .inl (cB (fun _ => false))))]) (w1 := [(s0, .inr (1, [.ref s1, .int (nI 0)])), (s1, .inl (cI, 6, .inl (cN (fun _ => 0))))]) hP hD [4] [0, 1, 2, 3] rfl rfl (by decide) (by decide) hk1 hFc hP1 hD1
  generalize H1 = H at hP hS ⊢
  have hP := hP.sub (ws' := [(f0, .inr (0, [.ref f1, .ref f2, .ref f3, .null, .int (nI 0), .int (nI 0), .int (nI 0), .int (nI 0)])), (f1, .inl (cZ, 6, .inl (cB (fun _ => false)))), (f2, .inl (cI, 6, .inl (cN (fun _ => 0)))), (f3, .inl (cZ, 6, .inl (cB (fun _ => false)))), (s0, .inr (1, [.ref s1, .int (nI 0)])), (s1, .inl (cI, 6, .inl (cN (fun _ => 0))))]) [0, 1, 2, 3, 4, 5] rfl
  have hD := hD.sub (ws' := [(f0, .inr (0, [.ref f1, .ref f2, .ref f3, .null, .int (nI 0), .int (nI 0), .int (nI 0), .int (nI 0)])), (f1, .inl (cZ, 6, .inl (cB (fun _ => false)))), (f2, .inl (cI, 6, .inl (cN (fun _ => 0)))), (f3, .inl (cZ, 6, .inl (cB (fun _ => false)))), (s0, .inr (1, [.ref s1, .int (nI 0)])), (s1, .inl (cI, 6, .inl (cN (fun _ => 0))))]) [0, 1, 2, 3, 4, 5] (by decide) rfl
  refine va_putF (D := (dC, dI)) (ci := 0) (v := .ref s0) (ty := (.object "Confroom$Line")) (C := RX0) (T := TX0) (N := 8) hx hb hts (wX0_init_X0_u) tyX0 tyX0_ok nmX0 hown hK hP hD hS 0 rfl rfl 3 (by decide) (hts (.fieldLink RX0 25 "Confroom$Floor" "spoke" "LConfroom$Line;") (wX0_init_f25)) (fun _ h9 => h9) rfl hin rfl (by decide +kernel) rfl rfl (Nat.le_of_ble_eq_true rfl) dX0_init_36 (fun H locs hP hD hS => ?_)
  have hP : va_P (dC, dI) vwCl [(f0, .inr (0, [.ref f1, .ref f2, .ref f3, .ref s0, .int (nI 0), .int (nI 0), .int (nI 0), .int (nI 0)])), (f1, .inl (cZ, 6, .inl (cB (fun _ => false)))), (f2, .inl (cI, 6, .inl (cN (fun _ => 0)))), (f3, .inl (cZ, 6, .inl (cB (fun _ => false)))), (s0, .inr (1, [.ref s1, .int (nI 0)])), (s1, .inl (cI, 6, .inl (cN (fun _ => 0))))] H := hP
  have hD : va_D A [(f0, .inr (0, [.ref f1, .ref f2, .ref f3, .ref s0, .int (nI 0), .int (nI 0), .int (nI 0), .int (nI 0)])), (f1, .inl (cZ, 6, .inl (cB (fun _ => false)))), (f2, .inl (cI, 6, .inl (cN (fun _ => 0)))), (f3, .inl (cZ, 6, .inl (cB (fun _ => false)))), (s0, .inr (1, [.ref s1, .int (nI 0)])), (s1, .inl (cI, 6, .inl (cN (fun _ => 0))))] := hD
  refine lv_aload_n hx hb dX0_init_39 rfl (lv_at hl 0 rfl) ?_
  refine lv_iconst (v := oI none) hx hb dX0_init_40 (by decide) ?_
  refine va_put (D := (dC, dI)) (ci := 0) (v := .int (oI none)) (ty := .int) (C := RX0) (T := TX0) (N := 8) hx hb hts (wX0_init_X0_u) tyX0 tyX0_ok nmX0 hown hK hP hD hS 0 rfl rfl 4 (by decide) (hts (.fieldLink RX0 29 "Confroom$Floor" "leader" "I") (wX0_init_f29)) (fun _ h9 => h9) rfl (by decide +kernel) rfl rfl (Nat.le_of_ble_eq_true rfl) dX0_init_41 (fun H locs hP hD hS => ?_)
  have hP : va_P (dC, dI) vwCl [(f0, .inr (0, [.ref f1, .ref f2, .ref f3, .ref s0, .int (oI none), .int (nI 0), .int (nI 0), .int (nI 0)])), (f1, .inl (cZ, 6, .inl (cB (fun _ => false)))), (f2, .inl (cI, 6, .inl (cN (fun _ => 0)))), (f3, .inl (cZ, 6, .inl (cB (fun _ => false)))), (s0, .inr (1, [.ref s1, .int (nI 0)])), (s1, .inl (cI, 6, .inl (cN (fun _ => 0))))] H := hP
  have hD : va_D A [(f0, .inr (0, [.ref f1, .ref f2, .ref f3, .ref s0, .int (oI none), .int (nI 0), .int (nI 0), .int (nI 0)])), (f1, .inl (cZ, 6, .inl (cB (fun _ => false)))), (f2, .inl (cI, 6, .inl (cN (fun _ => 0)))), (f3, .inl (cZ, 6, .inl (cB (fun _ => false)))), (s0, .inr (1, [.ref s1, .int (nI 0)])), (s1, .inl (cI, 6, .inl (cN (fun _ => 0))))] := hD
  refine lv_aload_n hx hb dX0_init_44 rfl (lv_at hl 0 rfl) ?_
  refine lv_iconst (v := nI 2) hx hb dX0_init_45 (by decide) ?_
  refine va_put (D := (dC, dI)) (ci := 0) (v := .int (nI 2)) (ty := .int) (C := RX0) (T := TX0) (N := 8) hx hb hts (wX0_init_X0_u) tyX0 tyX0_ok nmX0 hown hK hP hD hS 0 rfl rfl 5 (by decide) (hts (.fieldLink RX0 33 "Confroom$Floor" "hold" "I") (wX0_init_f33)) (fun _ h9 => h9) rfl (by decide +kernel) rfl rfl (Nat.le_of_ble_eq_true rfl) dX0_init_46 (fun H locs hP hD hS => ?_)
  have hP : va_P (dC, dI) vwCl [(f0, .inr (0, [.ref f1, .ref f2, .ref f3, .ref s0, .int (oI none), .int (nI 2), .int (nI 0), .int (nI 0)])), (f1, .inl (cZ, 6, .inl (cB (fun _ => false)))), (f2, .inl (cI, 6, .inl (cN (fun _ => 0)))), (f3, .inl (cZ, 6, .inl (cB (fun _ => false)))), (s0, .inr (1, [.ref s1, .int (nI 0)])), (s1, .inl (cI, 6, .inl (cN (fun _ => 0))))] H := hP
  have hD : va_D A [(f0, .inr (0, [.ref f1, .ref f2, .ref f3, .ref s0, .int (oI none), .int (nI 2), .int (nI 0), .int (nI 0)])), (f1, .inl (cZ, 6, .inl (cB (fun _ => false)))), (f2, .inl (cI, 6, .inl (cN (fun _ => 0)))), (f3, .inl (cZ, 6, .inl (cB (fun _ => false)))), (s0, .inr (1, [.ref s1, .int (nI 0)])), (s1, .inl (cI, 6, .inl (cN (fun _ => 0))))] := hD
  refine lv_aload_n hx hb dX0_init_49 rfl (lv_at hl 0 rfl) ?_
  refine lv_iconst (v := oI none) hx hb dX0_init_50 (by decide) ?_
  refine va_put (D := (dC, dI)) (ci := 0) (v := .int (oI none)) (ty := .int) (C := RX0) (T := TX0) (N := 8) hx hb hts (wX0_init_X0_u) tyX0 tyX0_ok nmX0 hown hK hP hD hS 0 rfl rfl 6 (by decide) (hts (.fieldLink RX0 36 "Confroom$Floor" "loudest" "I") (wX0_init_f36)) (fun _ h9 => h9) rfl (by decide +kernel) rfl rfl (Nat.le_of_ble_eq_true rfl) dX0_init_51 (fun H locs hP hD hS => ?_)
  have hP : va_P (dC, dI) vwCl [(f0, .inr (0, [.ref f1, .ref f2, .ref f3, .ref s0, .int (oI none), .int (nI 2), .int (oI none), .int (nI 0)])), (f1, .inl (cZ, 6, .inl (cB (fun _ => false)))), (f2, .inl (cI, 6, .inl (cN (fun _ => 0)))), (f3, .inl (cZ, 6, .inl (cB (fun _ => false)))), (s0, .inr (1, [.ref s1, .int (nI 0)])), (s1, .inl (cI, 6, .inl (cN (fun _ => 0))))] H := hP
  have hD : va_D A [(f0, .inr (0, [.ref f1, .ref f2, .ref f3, .ref s0, .int (oI none), .int (nI 2), .int (oI none), .int (nI 0)])), (f1, .inl (cZ, 6, .inl (cB (fun _ => false)))), (f2, .inl (cI, 6, .inl (cN (fun _ => 0)))), (f3, .inl (cZ, 6, .inl (cB (fun _ => false)))), (s0, .inr (1, [.ref s1, .int (nI 0)])), (s1, .inl (cI, 6, .inl (cN (fun _ => 0))))] := hD
  refine lv_aload_n hx hb dX0_init_54 rfl (lv_at hl 0 rfl) ?_
  refine lv_iconst (v := nI 0) hx hb dX0_init_55 (by decide) ?_
  refine va_put (D := (dC, dI)) (ci := 0) (v := .int (nI 0)) (ty := .int) (C := RX0) (T := TX0) (N := 8) hx hb hts (wX0_init_X0_u) tyX0 tyX0_ok nmX0 hown hK hP hD hS 0 rfl rfl 7 (by decide) (hts (.fieldLink RX0 39 "Confroom$Floor" "loudSeconds" "I") (wX0_init_f39)) (fun _ h9 => h9) rfl (by decide +kernel) rfl rfl (Nat.le_of_ble_eq_true rfl) dX0_init_56 (fun H locs hP hD hS => ?_)
  have hP : va_P (dC, dI) vwCl [(f0, .inr (0, [.ref f1, .ref f2, .ref f3, .ref s0, .int (oI none), .int (nI 2), .int (oI none), .int (nI 0)])), (f1, .inl (cZ, 6, .inl (cB (fun _ => false)))), (f2, .inl (cI, 6, .inl (cN (fun _ => 0)))), (f3, .inl (cZ, 6, .inl (cB (fun _ => false)))), (s0, .inr (1, [.ref s1, .int (nI 0)])), (s1, .inl (cI, 6, .inl (cN (fun _ => 0))))] H := hP
  have hD : va_D A [(f0, .inr (0, [.ref f1, .ref f2, .ref f3, .ref s0, .int (oI none), .int (nI 2), .int (oI none), .int (nI 0)])), (f1, .inl (cZ, 6, .inl (cB (fun _ => false)))), (f2, .inl (cI, 6, .inl (cN (fun _ => 0)))), (f3, .inl (cZ, 6, .inl (cB (fun _ => false)))), (s0, .inr (1, [.ref s1, .int (nI 0)])), (s1, .inl (cI, 6, .inl (cN (fun _ => 0))))] := hD
  refine kret 59 _ _ _ f1 f2 f3 s0 s1  dX0_init_59 hP hD hS

set_option maxHeartbeats 4000000 in
set_option maxRecDepth 100000 in
theorem c_X0_init (l : Launch) (dC : Nat → ClassId) (dI : Nat → Nat → Nat) (cI cZ cG : ClassId) (f0 : Nat) (sz : Nat)  : Met l yX0_init wsX0_init ({ frames := 2, cells := 5, slots := 26, locals := 32 } : Room) (va_Pc [.ref f0] (fun U => U.heap.size = sz ∧ va_P (dC, dI) vwCl [(f0, .inr (0, [.null, .null, .null, .null, .int (nI 0), .int (nI 0), .int (nI 0), .int (nI 0)]))] U.heap ∧ va_K (dC, dI) vwCl [(cI, .int), (cZ, .boolean), (cG, .array .int)] U ∧ va_D (fun _ => True) [(f0, .inr (0, [.null, .null, .null, .null, .int (nI 0), .int (nI 0), .int (nI 0), .int (nI 0)]))] ∧ nX0 U)) (va_Qv (fun (_ : Unit) => True) (fun (_ : Unit) t => ∃ (f1 : Nat) (f2 : Nat) (f3 : Nat) (s0 : Nat) (s1 : Nat), va_P (dC, dI) vwCl [(f0, .inr (0, [.ref f1, .ref f2, .ref f3, .ref s0, .int (oI none), .int (nI 2), .int (oI none), .int (nI 0)])), (f1, .inl (cZ, 6, .inl (cB (fun _ => false)))), (f2, .inl (cI, 6, .inl (cN (fun _ => 0)))), (f3, .inl (cZ, 6, .inl (cB (fun _ => false)))), (s0, .inr (1, [.ref s1, .int (nI 0)])), (s1, .inl (cI, 6, .inl (cN (fun _ => 0))))] t.heap ∧ va_D (va_A [(f0, .inr (0, [.null, .null, .null, .null, .int (nI 0), .int (nI 0), .int (nI 0), .int (nI 0)]))] sz) [(f0, .inr (0, [.ref f1, .ref f2, .ref f3, .ref s0, .int (oI none), .int (nI 2), .int (oI none), .int (nI 0)])), (f1, .inl (cZ, 6, .inl (cB (fun _ => false)))), (f2, .inl (cI, 6, .inl (cN (fun _ => 0)))), (f3, .inl (cZ, 6, .inl (cB (fun _ => false)))), (s0, .inr (1, [.ref s1, .int (nI 0)])), (s1, .inl (cI, 6, .inl (cN (fun _ => 0))))]) (va_A [(f0, .inr (0, [.null, .null, .null, .null, .int (nI 0), .int (nI 0), .int (nI 0), .int (nI 0)]))] sz)) 5 26 (va_A [(f0, .inr (0, [.null, .null, .null, .null, .int (nI 0), .int (nI 0), .int (nI 0), .int (nI 0)]))] sz) := by
  refine Met.ofW (cc := cX0_init) (maxL := 1) (ret := none) (by decide) rfl ?_
  intro p e s m args below meth c s₁ B hml hv
  obtain ⟨rfl, hsz, hP, hK, hD0, hN⟩ := hv
  have hts := atoms_spec (ws := wsX0_init) B.pre
  have hown : s.vm.findClass RX0 = some m.cls := findClass_of_methodNamed B.named
  have hlocks := B.notSynchronized
  have hin : meth.name = "<init>" := (name_of_methodNamed B.named B.method).1
  subst hsz
  have hD := hD0.self (sz := s.heap.size)
  have hA : ∀ q : Nat, s.heap.size ≤ q → va_A [(f0, .inr (0, [.null, .null, .null, .null, .int (nI 0), .int (nI 0), .int (nI 0), .int (nI 0)]))] s.heap.size q := fun q h => Or.inr h
  have hl := lv_entry ([.ref f0]) (n := 1) (Nat.le_of_ble_eq_true rfl)
  rw [lg_entry_eq]
  generalize (lg_sl ([.ref f0]) ++ List.replicate (1 - (lg_sl ([.ref f0])).length) Slot.unset).toArray = ls at hl ⊢
  have hl : lv_has ls 1 [(0, .ref f0)] := hl
  have hx := B.exec
  have hb := B.bytes
  exact b_X0_init hx hb hml hown hin hts hK hA f0  hN hP hD va_S.rf hl (fun pcr H locs ls f1 f2 f3 s0 s1  hd hP hD hS => W.vret hx hb B.returns (fun t ht hW => ⟨⟨(), rfl, trivial, f1, f2, f3, s0, s1, by rw [ht]; exact hP, hD⟩, hS.F ht⟩) hS.2.2 hd)
theorem wX4_init_a_boolean : Cond.arrayClass .boolean ∈ wsX4_init := by decide +kernel
theorem wX4_init_a_int : Cond.arrayClass .int ∈ wsX4_init := by decide +kernel
theorem wX4_init_c25 : Cond.classLink RX4 25 RX1 ∈ wsX4_init := by decide +kernel
theorem wX4_init_f15 : Cond.fieldLink RX4 15 "Confroom$Streams" "step" "[I" ∈ wsX4_init := by decide +kernel
theorem wX4_init_f18 : Cond.fieldLink RX4 18 "Confroom$Streams" "keyCount" "[I" ∈ wsX4_init := by decide +kernel
theorem wX4_init_f21 : Cond.fieldLink RX4 21 "Confroom$Streams" "asked" "[Z" ∈ wsX4_init := by decide +kernel
theorem wX4_init_f28 : Cond.fieldLink RX4 28 "Confroom$Streams" "published" "LConfroom$Line;" ∈ wsX4_init := by decide +kernel
theorem wX4_init_f32 : Cond.fieldLink RX4 32 "Confroom$Streams" "limit" "I" ∈ wsX4_init := by decide +kernel
theorem wX4_init_f36 : Cond.fieldLink RX4 36 "Confroom$Streams" "lastKey" "[I" ∈ wsX4_init := by decide +kernel
theorem wX4_init_f9 : Cond.fieldLink RX4 9 "Confroom$Streams" "base" "[I" ∈ wsX4_init := by decide +kernel
theorem wX4_init_m_X1_init : Cond.instanceMethod yX1_init ∈ wsX4_init := by decide +kernel
theorem wX4_init_i_X1 : Cond.instantiable RX1 2 ∈ wsX4_init := by decide +kernel
theorem wX4_init_j_X1 : Cond.initialized RX1 ∈ wsX4_init := by decide +kernel
theorem wX4_init_oi1 : Cond.methodLink RX4 3 objectInit ∈ wsX4_init := by decide +kernel
theorem wX4_init_oi2 : Cond.instanceMethod objectInit ∈ wsX4_init := by decide +kernel
theorem wX4_init_oi3 : Cond.code objectInit ⟨#[0xb1]⟩ 1 none ∈ wsX4_init := by decide +kernel
theorem wX4_init_X1_u : ∀ w ∈ u_ws RX1 TX1 2, w ∈ wsX4_init := by decide +kernel
theorem wX4_init_X4_u : ∀ w ∈ u_ws RX4 TX4 7, w ∈ wsX4_init := by decide +kernel
set_option maxHeartbeats 4000000 in
set_option maxRecDepth 100000 in
theorem b_X4_init {p : Program} {l : Launch} {e : Env} {s : State} {m : MethodId} {args : Array Value} {below : List Frame} {meth : Method} {c : Code} {Q : State → Prop} {A : Nat → Prop} {dC : Nat → ClassId} {dI : Nat → Nat → Nat} {cI cZ cG : ClassId} (hx : p.tables.exec = Jvm.exec) (hb : c.code = cX4_init) (hml : c.maxLocals = 1) (hown : s.vm.findClass RX4 = some m.cls) (hin : meth.name = "<init>") (hts : ∀ w ∈ wsX4_init, w.before args s = true) (hK : va_K (dC, dI) vwCl [(cI, .int), (cZ, .boolean), (cG, .array .int)] s) (hA : ∀ q : Nat, s.heap.size ≤ q → A q) (t0 : Nat)  (hN : nX4 s) {H : Heap} {locs : List Loc} {ls : Array Slot} (hP : va_P (dC, dI) vwCl [(t0, .inr (4, [.null, .null, .null, .null, .null, .int (nI 0), .null]))] H) (hD : va_D A [(t0, .inr (4, [.null, .null, .null, .null, .null, .int (nI 0), .null]))]) (hS : va_S A s.heap H locs) (hl : lv_has ls 1 [(0, .ref t0)]) (kret : ∀ (pcr : Nat) (H : Heap) (locs : List Loc) (ls : Array Slot) (t1 : Nat) (t2 : Nat) (t3 : Nat) (t4 : Nat) (t5 : Nat) (u0 : Nat) (u1 : Nat), decode cX4_init pcr = .ok (.return_, 1) → va_P (dC, dI) vwCl [(t0, .inr (4, [.ref t1, .ref t2, .ref t3, .ref t4, .ref u0, .int (nI 3), .ref t5])), (t1, .inl (cI, 6, .inl (cN (fun _ => 0)))), (t2, .inl (cI, 6, .inl (cN (fun _ => 0)))), (t3, .inl (cI, 6, .inl (cN (fun _ => 0)))), (t4, .inl (cZ, 6, .inl (cB (fun _ => false)))), (t5, .inl (cI, 6, .inl (cN (fun _ => 0)))), (u0, .inr (1, [.ref u1, .int (nI 0)])), (u1, .inl (cI, 6, .inl (cN (fun _ => 0))))] H → va_D A [(t0, .inr (4, [.ref t1, .ref t2, .ref t3, .ref t4, .ref u0, .int (nI 3), .ref t5])), (t1, .inl (cI, 6, .inl (cN (fun _ => 0)))), (t2, .inl (cI, 6, .inl (cN (fun _ => 0)))), (t3, .inl (cI, 6, .inl (cN (fun _ => 0)))), (t4, .inl (cZ, 6, .inl (cB (fun _ => false)))), (t5, .inl (cI, 6, .inl (cN (fun _ => 0)))), (u0, .inr (1, [.ref u1, .int (nI 0)])), (u1, .inl (cI, 6, .inl (cN (fun _ => 0))))] → va_S A s.heap H locs → W p l e ({ frames := 2, cells := 7, slots := 38, locals := 32 } : Room) s m args below meth c H locs 7 38 Q (F0 m pcr ls [])) : W p l e ({ frames := 2, cells := 7, slots := 38, locals := 32 } : Room) s m args below meth c H locs 0 0 Q (F0 m 0 ls []) := by
  refine lv_aload_n hx hb dX4_init_0 rfl (lv_at hl 0 rfl) ?_
  refine W.objInit hx hb hown (hts (.methodLink RX4 3 objectInit) (wX4_init_oi1)) (hts (.instanceMethod objectInit) (wX4_init_oi2)) (hts (.code objectInit ⟨#[0xb1]⟩ 1 none) (wX4_init_oi3)) rfl (by rw [hml]; exact hl.1) rfl dX4_init_1 (Nat.le_of_ble_eq_true rfl) (Nat.le_of_ble_eq_true rfl) ?_
  refine W.eq (g2 := F0 m 4 ls []) rfl ?_
  refine lv_aload_n hx hb dX4_init_4 rfl (lv_at hl 0 rfl) ?_
  refine lv_bipush (v := nI 6) hx hb dX4_init_5 (by decide) ?_
  refine q_newN hx hb (hts _ wX4_init_a_int) hK hP hD hS hA (cN (fun _ => 0)) (fun _ => rfl) (Nat.le_of_ble_eq_true rfl) (Nat.le_of_ble_eq_true rfl) dX4_init_7 (fun t1 H locs hP hD hS => ?_)
  have hP : va_P (dC, dI) vwCl [(t0, .inr (4, [.null, .null, .null, .null, .null, .int (nI 0), .null])), (t1, .inl (cI, 6, .inl (cN (fun _ => 0))))] H := hP
  have hD : va_D A [(t0, .inr (4, [.null, .null, .null, .null, .null, .int (nI 0), .null])), (t1, .inl (cI, 6, .inl (cN (fun _ => 0))))] := hD
  refine va_putF (D := (dC, dI)) (ci := 4) (v := .ref t1) (ty := (.array .int)) (C := RX4) (T := TX4) (N := 7) hx hb hts (wX4_init_X4_u) tyX4 tyX4_ok nmX4 hown hK hP hD hS 0 rfl rfl 0 (by decide) (hts (.fieldLink RX4 9 "Confroom$Streams" "base" "[I") (wX4_init_f9)) (fun _ h9 => h9) rfl hin rfl (by decide +kernel) rfl rfl (Nat.le_of_ble_eq_true rfl) dX4_init_9 (fun H locs hP hD hS => ?_)
  have hP : va_P (dC, dI) vwCl [(t0, .inr (4, [.ref t1, .null, .null, .null, .null, .int (nI 0), .null])), (t1, .inl (cI, 6, .inl (cN (fun _ => 0))))] H := hP
  have hD : va_D A [(t0, .inr (4, [.ref t1, .null, .null, .null, .null, .int (nI 0), .null])), (t1, .inl (cI, 6, .inl (cN (fun _ => 0))))] := hD
  refine lv_aload_n hx hb dX4_init_12 rfl (lv_at hl 0 rfl) ?_
  refine lv_bipush (v := nI 6) hx hb dX4_init_13 (by decide) ?_
  refine q_newN hx hb (hts _ wX4_init_a_int) hK hP hD hS hA (cN (fun _ => 0)) (fun _ => rfl) (Nat.le_of_ble_eq_true rfl) (Nat.le_of_ble_eq_true rfl) dX4_init_15 (fun t2 H locs hP hD hS => ?_)
  have hP : va_P (dC, dI) vwCl [(t0, .inr (4, [.ref t1, .null, .null, .null, .null, .int (nI 0), .null])), (t1, .inl (cI, 6, .inl (cN (fun _ => 0)))), (t2, .inl (cI, 6, .inl (cN (fun _ => 0))))] H := hP
  have hD : va_D A [(t0, .inr (4, [.ref t1, .null, .null, .null, .null, .int (nI 0), .null])), (t1, .inl (cI, 6, .inl (cN (fun _ => 0)))), (t2, .inl (cI, 6, .inl (cN (fun _ => 0))))] := hD
  refine va_putF (D := (dC, dI)) (ci := 4) (v := .ref t2) (ty := (.array .int)) (C := RX4) (T := TX4) (N := 7) hx hb hts (wX4_init_X4_u) tyX4 tyX4_ok nmX4 hown hK hP hD hS 0 rfl rfl 1 (by decide) (hts (.fieldLink RX4 15 "Confroom$Streams" "step" "[I") (wX4_init_f15)) (fun _ h9 => h9) rfl hin rfl (by decide +kernel) rfl rfl (Nat.le_of_ble_eq_true rfl) dX4_init_17 (fun H locs hP hD hS => ?_)
  have hP : va_P (dC, dI) vwCl [(t0, .inr (4, [.ref t1, .ref t2, .null, .null, .null, .int (nI 0), .null])), (t1, .inl (cI, 6, .inl (cN (fun _ => 0)))), (t2, .inl (cI, 6, .inl (cN (fun _ => 0))))] H := hP
  have hD : va_D A [(t0, .inr (4, [.ref t1, .ref t2, .null, .null, .null, .int (nI 0), .null])), (t1, .inl (cI, 6, .inl (cN (fun _ => 0)))), (t2, .inl (cI, 6, .inl (cN (fun _ => 0))))] := hD
  refine lv_aload_n hx hb dX4_init_20 rfl (lv_at hl 0 rfl) ?_
  refine lv_bipush (v := nI 6) hx hb dX4_init_21 (by decide) ?_
  refine q_newN hx hb (hts _ wX4_init_a_int) hK hP hD hS hA (cN (fun _ => 0)) (fun _ => rfl) (Nat.le_of_ble_eq_true rfl) (Nat.le_of_ble_eq_true rfl) dX4_init_23 (fun t3 H locs hP hD hS => ?_)
  have hP : va_P (dC, dI) vwCl [(t0, .inr (4, [.ref t1, .ref t2, .null, .null, .null, .int (nI 0), .null])), (t1, .inl (cI, 6, .inl (cN (fun _ => 0)))), (t2, .inl (cI, 6, .inl (cN (fun _ => 0)))), (t3, .inl (cI, 6, .inl (cN (fun _ => 0))))] H := hP
  have hD : va_D A [(t0, .inr (4, [.ref t1, .ref t2, .null, .null, .null, .int (nI 0), .null])), (t1, .inl (cI, 6, .inl (cN (fun _ => 0)))), (t2, .inl (cI, 6, .inl (cN (fun _ => 0)))), (t3, .inl (cI, 6, .inl (cN (fun _ => 0))))] := hD
  refine va_putF (D := (dC, dI)) (ci := 4) (v := .ref t3) (ty := (.array .int)) (C := RX4) (T := TX4) (N := 7) hx hb hts (wX4_init_X4_u) tyX4 tyX4_ok nmX4 hown hK hP hD hS 0 rfl rfl 2 (by decide) (hts (.fieldLink RX4 18 "Confroom$Streams" "keyCount" "[I") (wX4_init_f18)) (fun _ h9 => h9) rfl hin rfl (by decide +kernel) rfl rfl (Nat.le_of_ble_eq_true rfl) dX4_init_25 (fun H locs hP hD hS => ?_)
  have hP : va_P (dC, dI) vwCl [(t0, .inr (4, [.ref t1, .ref t2, .ref t3, .null, .null, .int (nI 0), .null])), (t1, .inl (cI, 6, .inl (cN (fun _ => 0)))), (t2, .inl (cI, 6, .inl (cN (fun _ => 0)))), (t3, .inl (cI, 6, .inl (cN (fun _ => 0))))] H := hP
  have hD : va_D A [(t0, .inr (4, [.ref t1, .ref t2, .ref t3, .null, .null, .int (nI 0), .null])), (t1, .inl (cI, 6, .inl (cN (fun _ => 0)))), (t2, .inl (cI, 6, .inl (cN (fun _ => 0)))), (t3, .inl (cI, 6, .inl (cN (fun _ => 0))))] := hD
  refine lv_aload_n hx hb dX4_init_28 rfl (lv_at hl 0 rfl) ?_
  refine lv_bipush (v := nI 6) hx hb dX4_init_29 (by decide) ?_
  refine q_newB hx hb (hts _ wX4_init_a_boolean) hK hP hD hS hA (cB (fun _ => false)) (fun _ => rfl) (Nat.le_of_ble_eq_true rfl) (Nat.le_of_ble_eq_true rfl) dX4_init_31 (fun t4 H locs hP hD hS => ?_)
  have hP : va_P (dC, dI) vwCl [(t0, .inr (4, [.ref t1, .ref t2, .ref t3, .null, .null, .int (nI 0), .null])), (t1, .inl (cI, 6, .inl (cN (fun _ => 0)))), (t2, .inl (cI, 6, .inl (cN (fun _ => 0)))), (t3, .inl (cI, 6, .inl (cN (fun _ => 0)))), (t4, .inl (cZ, 6, .inl (cB (fun _ => false))))] H := hP
  have hD : va_D A [(t0, .inr (4, [.ref t1, .ref t2, .ref t3, .null, .null, .int (nI 0), .null])), (t1, .inl (cI, 6, .inl (cN (fun _ => 0)))), (t2, .inl (cI, 6, .inl (cN (fun _ => 0)))), (t3, .inl (cI, 6, .inl (cN (fun _ => 0)))), (t4, .inl (cZ, 6, .inl (cB (fun _ => false))))] := hD
  refine va_putF (D := (dC, dI)) (ci := 4) (v := .ref t4) (ty := (.array .boolean)) (C := RX4) (T := TX4) (N := 7) hx hb hts (wX4_init_X4_u) tyX4 tyX4_ok nmX4 hown hK hP hD hS 0 rfl rfl 3 (by decide) (hts (.fieldLink RX4 21 "Confroom$Streams" "asked" "[Z") (wX4_init_f21)) (fun _ h9 => h9) rfl hin rfl (by decide +kernel) rfl rfl (Nat.le_of_ble_eq_true rfl) dX4_init_33 (fun H locs hP hD hS => ?_)
  have hP : va_P (dC, dI) vwCl [(t0, .inr (4, [.ref t1, .ref t2, .ref t3, .ref t4, .null, .int (nI 0), .null])), (t1, .inl (cI, 6, .inl (cN (fun _ => 0)))), (t2, .inl (cI, 6, .inl (cN (fun _ => 0)))), (t3, .inl (cI, 6, .inl (cN (fun _ => 0)))), (t4, .inl (cZ, 6, .inl (cB (fun _ => false))))] H := hP
  have hD : va_D A [(t0, .inr (4, [.ref t1, .ref t2, .ref t3, .ref t4, .null, .int (nI 0), .null])), (t1, .inl (cI, 6, .inl (cN (fun _ => 0)))), (t2, .inl (cI, 6, .inl (cN (fun _ => 0)))), (t3, .inl (cI, 6, .inl (cN (fun _ => 0)))), (t4, .inl (cZ, 6, .inl (cB (fun _ => false))))] := hD
  refine lv_aload_n hx hb dX4_init_36 rfl (lv_at hl 0 rfl) ?_
  refine va_new (D := (dC, dI)) (ci := 1) (fs := [.null, .int (nI 0)]) (C := RX1) (T := TX1) (N := 2) hx hb hts (wX4_init_X1_u) tyX1 tyX1_ok hown (hts _ wX4_init_c25) (hts _ wX4_init_i_X1) (hts _ wX4_init_j_X1) hK hP hD hS hA rfl (fun j hj => by match j, hj with | 0, _ => rfl | 1, _ => rfl) (Nat.le_of_ble_eq_true rfl) (Nat.le_of_ble_eq_true rfl) dX4_init_37 (fun u0 H hP hD hS => ?_)
  have hP : va_P (dC, dI) vwCl [(t0, .inr (4, [.ref t1, .ref t2, .ref t3, .ref t4, .null, .int (nI 0), .null])), (t1, .inl (cI, 6, .inl (cN (fun _ => 0)))), (t2, .inl (cI, 6, .inl (cN (fun _ => 0)))), (t3, .inl (cI, 6, .inl (cN (fun _ => 0)))), (t4, .inl (cZ, 6, .inl (cB (fun _ => false)))), (u0, .inr (1, [.null, .int (nI 0)]))] H := hP
  have hD : va_D A [(t0, .inr (4, [.ref t1, .ref t2, .ref t3, .ref t4, .null, .int (nI 0), .null])), (t1, .inl (cI, 6, .inl (cN (fun _ => 0)))), (t2, .inl (cI, 6, .inl (cN (fun _ => 0)))), (t3, .inl (cI, 6, .inl (cN (fun _ => 0)))), (t4, .inl (cZ, 6, .inl (cB (fun _ => false)))), (u0, .inr (1, [.null, .int (nI 0)]))] := hD
  refine lv_dup hx hb dX4_init_40 rfl ?_
  have hPc := hP.sub (ws' := [(u0, .inr (1, [.null, .int (nI 0)]))]) [5] rfl
  have hDc := hD.sub (ws' := [(u0, .inr (1, [.null, .int (nI 0)]))]) [5] (by decide) rfl
  have hFc := va_free (wc := [(u0, .inr (1, [.null, .int (nI 0)]))]) hD hS hA [5] rfl
  refine va_callv (va_runIN (As := []) (rest := [.ref u0, .ref t0]) ⟨hx, hb, hml, hown, hts⟩ (c_X1_init l dC dI cI cZ cG u0 H.size ) ⟨va_cnB 0 hts gX4_init_X1_init_n27 rfl rfl rfl (hN) (hts _ wX4_init_j_X1) ⟨by decide, by decide, by decide +kernel⟩ ⟨Nat.le_of_ble_eq_true rfl, Nat.le_of_ble_eq_true rfl⟩, rfl, hts _ wX4_init_m_X1_init⟩ ⟨fun a U g mk q => q_blind q, fun U hU hW => ⟨rfl, by rw [hU], by rw [hU]; exact hPc, va_K.moved hW.alike hK, hDc.weaken (fun _ _ _ _ => trivial)⟩⟩ rfl rfl hl.1 rfl (lv_room (Nat.le_of_ble_eq_true rfl)) dX4_init_41 ⟨by decide, by decide⟩) hS (fun q _ h => hFc q h) hFc (fun u t H1 locs ht hvm hw hB hz1 hk1 hS => ?_)
  obtain ⟨u1,  hP1, hD1⟩ := hB
  rw [ht] at hP1
  obtain ⟨hP, hD⟩ := va_join (wr := [(t0, .inr (4, [.ref t1, .ref t2, .ref t3, .ref t4, .null, .int (nI 0), .null])), (t1, .inl (cI, 6, .inl (cN (fun _ => 0)))), (t2, .inl (cI, 6, .inl (cN (fun _ => 0)))), (t3, .inl (cI, 6, .inl (cN (fun _ => 0)))), (t4, .inl (cZ, 6, .inl (cB (fun _ => false))))]) (w1 := [(u0, .inr (1, [.ref u1, .int (nI 0)])), (u1, .inl (cI, 6, .inl (cN (fun _ => 0))))]) hP hD [5] [0, 1, 2, 3, 4] rfl rfl (by decide) (by decide) hk1 hFc hP1 hD1
  generalize H1 = H at hP hS ⊢
  have hP := hP.sub (ws' := [(t0, .inr (4, [.ref t1, .ref t2, .ref t3, .ref t4, .null, .int (nI 0), .null])), (t1, .inl (cI, 6, .inl (cN (fun _ => 0)))), (t2, .inl (cI, 6, .inl (cN (fun _ => 0)))), (t3, .inl (cI, 6, .inl (cN (fun _ => 0)))), (t4, .inl (cZ, 6, .inl (cB (fun _ => false)))), (u0, .inr (1, [.ref u1, .int (nI 0)])), (u1, .inl (cI, 6, .inl (cN (fun _ => 0))))]) [0, 1, 2, 3, 4, 5, 6] rfl
  have hD := hD.sub (ws' := [(t0, .inr (4, [.ref t1, .ref t2, .ref t3, .ref t4, .null, .int (nI 0), .null])), (t1, .inl (cI, 6, .inl (cN (fun _ => 0)))), (t2, .inl (cI, 6, .inl (cN (fun _ => 0)))), (t3, .inl (cI, 6, .inl (cN (fun _ => 0)))), (t4, .inl (cZ, 6, .inl (cB (fun _ => false)))), (u0, .inr (1, [.ref u1, .int (nI 0)])), (u1, .inl (cI, 6, .inl (cN (fun _ => 0))))]) [0, 1, 2, 3, 4, 5, 6] (by decide) rfl
  refine va_putF (D := (dC, dI)) (ci := 4) (v := .ref u0) (ty := (.object "Confroom$Line")) (C := RX4) (T := TX4) (N := 7) hx hb hts (wX4_init_X4_u) tyX4 tyX4_ok nmX4 hown hK hP hD hS 0 rfl rfl 4 (by decide) (hts (.fieldLink RX4 28 "Confroom$Streams" "published" "LConfroom$Line;") (wX4_init_f28)) (fun _ h9 => h9) rfl hin rfl (by decide +kernel) rfl rfl (Nat.le_of_ble_eq_true rfl) dX4_init_44 (fun H locs hP hD hS => ?_)
  have hP : va_P (dC, dI) vwCl [(t0, .inr (4, [.ref t1, .ref t2, .ref t3, .ref t4, .ref u0, .int (nI 0), .null])), (t1, .inl (cI, 6, .inl (cN (fun _ => 0)))), (t2, .inl (cI, 6, .inl (cN (fun _ => 0)))), (t3, .inl (cI, 6, .inl (cN (fun _ => 0)))), (t4, .inl (cZ, 6, .inl (cB (fun _ => false)))), (u0, .inr (1, [.ref u1, .int (nI 0)])), (u1, .inl (cI, 6, .inl (cN (fun _ => 0))))] H := hP
  have hD : va_D A [(t0, .inr (4, [.ref t1, .ref t2, .ref t3, .ref t4, .ref u0, .int (nI 0), .null])), (t1, .inl (cI, 6, .inl (cN (fun _ => 0)))), (t2, .inl (cI, 6, .inl (cN (fun _ => 0)))), (t3, .inl (cI, 6, .inl (cN (fun _ => 0)))), (t4, .inl (cZ, 6, .inl (cB (fun _ => false)))), (u0, .inr (1, [.ref u1, .int (nI 0)])), (u1, .inl (cI, 6, .inl (cN (fun _ => 0))))] := hD
  refine lv_aload_n hx hb dX4_init_47 rfl (lv_at hl 0 rfl) ?_
  refine lv_iconst (v := nI 3) hx hb dX4_init_48 (by decide) ?_
  refine va_put (D := (dC, dI)) (ci := 4) (v := .int (nI 3)) (ty := .int) (C := RX4) (T := TX4) (N := 7) hx hb hts (wX4_init_X4_u) tyX4 tyX4_ok nmX4 hown hK hP hD hS 0 rfl rfl 5 (by decide) (hts (.fieldLink RX4 32 "Confroom$Streams" "limit" "I") (wX4_init_f32)) (fun _ h9 => h9) rfl (by decide +kernel) rfl rfl (Nat.le_of_ble_eq_true rfl) dX4_init_49 (fun H locs hP hD hS => ?_)
  have hP : va_P (dC, dI) vwCl [(t0, .inr (4, [.ref t1, .ref t2, .ref t3, .ref t4, .ref u0, .int (nI 3), .null])), (t1, .inl (cI, 6, .inl (cN (fun _ => 0)))), (t2, .inl (cI, 6, .inl (cN (fun _ => 0)))), (t3, .inl (cI, 6, .inl (cN (fun _ => 0)))), (t4, .inl (cZ, 6, .inl (cB (fun _ => false)))), (u0, .inr (1, [.ref u1, .int (nI 0)])), (u1, .inl (cI, 6, .inl (cN (fun _ => 0))))] H := hP
  have hD : va_D A [(t0, .inr (4, [.ref t1, .ref t2, .ref t3, .ref t4, .ref u0, .int (nI 3), .null])), (t1, .inl (cI, 6, .inl (cN (fun _ => 0)))), (t2, .inl (cI, 6, .inl (cN (fun _ => 0)))), (t3, .inl (cI, 6, .inl (cN (fun _ => 0)))), (t4, .inl (cZ, 6, .inl (cB (fun _ => false)))), (u0, .inr (1, [.ref u1, .int (nI 0)])), (u1, .inl (cI, 6, .inl (cN (fun _ => 0))))] := hD
  refine lv_aload_n hx hb dX4_init_52 rfl (lv_at hl 0 rfl) ?_
  refine lv_bipush (v := nI 6) hx hb dX4_init_53 (by decide) ?_
  refine q_newN hx hb (hts _ wX4_init_a_int) hK hP hD hS hA (cN (fun _ => 0)) (fun _ => rfl) (Nat.le_of_ble_eq_true rfl) (Nat.le_of_ble_eq_true rfl) dX4_init_55 (fun t5 H locs hP hD hS => ?_)
  have hP : va_P (dC, dI) vwCl [(t0, .inr (4, [.ref t1, .ref t2, .ref t3, .ref t4, .ref u0, .int (nI 3), .null])), (t1, .inl (cI, 6, .inl (cN (fun _ => 0)))), (t2, .inl (cI, 6, .inl (cN (fun _ => 0)))), (t3, .inl (cI, 6, .inl (cN (fun _ => 0)))), (t4, .inl (cZ, 6, .inl (cB (fun _ => false)))), (u0, .inr (1, [.ref u1, .int (nI 0)])), (u1, .inl (cI, 6, .inl (cN (fun _ => 0)))), (t5, .inl (cI, 6, .inl (cN (fun _ => 0))))] H := hP
  have hD : va_D A [(t0, .inr (4, [.ref t1, .ref t2, .ref t3, .ref t4, .ref u0, .int (nI 3), .null])), (t1, .inl (cI, 6, .inl (cN (fun _ => 0)))), (t2, .inl (cI, 6, .inl (cN (fun _ => 0)))), (t3, .inl (cI, 6, .inl (cN (fun _ => 0)))), (t4, .inl (cZ, 6, .inl (cB (fun _ => false)))), (u0, .inr (1, [.ref u1, .int (nI 0)])), (u1, .inl (cI, 6, .inl (cN (fun _ => 0)))), (t5, .inl (cI, 6, .inl (cN (fun _ => 0))))] := hD
  refine va_putF (D := (dC, dI)) (ci := 4) (v := .ref t5) (ty := (.array .int)) (C := RX4) (T := TX4) (N := 7) hx hb hts (wX4_init_X4_u) tyX4 tyX4_ok nmX4 hown hK hP hD hS 0 rfl rfl 6 (by decide) (hts (.fieldLink RX4 36 "Confroom$Streams" "lastKey" "[I") (wX4_init_f36)) (fun _ h9 => h9) rfl hin rfl (by decide +kernel) rfl rfl (Nat.le_of_ble_eq_true rfl) dX4_init_57 (fun H locs hP hD hS => ?_)
  have hP : va_P (dC, dI) vwCl [(t0, .inr (4, [.ref t1, .ref t2, .ref t3, .ref t4, .ref u0, .int (nI 3), .ref t5])), (t1, .inl (cI, 6, .inl (cN (fun _ => 0)))), (t2, .inl (cI, 6, .inl (cN (fun _ => 0)))), (t3, .inl (cI, 6, .inl (cN (fun _ => 0)))), (t4, .inl (cZ, 6, .inl (cB (fun _ => false)))), (u0, .inr (1, [.ref u1, .int (nI 0)])), (u1, .inl (cI, 6, .inl (cN (fun _ => 0)))), (t5, .inl (cI, 6, .inl (cN (fun _ => 0))))] H := hP
  have hD : va_D A [(t0, .inr (4, [.ref t1, .ref t2, .ref t3, .ref t4, .ref u0, .int (nI 3), .ref t5])), (t1, .inl (cI, 6, .inl (cN (fun _ => 0)))), (t2, .inl (cI, 6, .inl (cN (fun _ => 0)))), (t3, .inl (cI, 6, .inl (cN (fun _ => 0)))), (t4, .inl (cZ, 6, .inl (cB (fun _ => false)))), (u0, .inr (1, [.ref u1, .int (nI 0)])), (u1, .inl (cI, 6, .inl (cN (fun _ => 0)))), (t5, .inl (cI, 6, .inl (cN (fun _ => 0))))] := hD
  have hP := hP.sub (ws' := [(t0, .inr (4, [.ref t1, .ref t2, .ref t3, .ref t4, .ref u0, .int (nI 3), .ref t5])), (t1, .inl (cI, 6, .inl (cN (fun _ => 0)))), (t2, .inl (cI, 6, .inl (cN (fun _ => 0)))), (t3, .inl (cI, 6, .inl (cN (fun _ => 0)))), (t4, .inl (cZ, 6, .inl (cB (fun _ => false)))), (t5, .inl (cI, 6, .inl (cN (fun _ => 0)))), (u0, .inr (1, [.ref u1, .int (nI 0)])), (u1, .inl (cI, 6, .inl (cN (fun _ => 0))))]) [0, 1, 2, 3, 4, 7, 5, 6] rfl
  have hD := hD.sub (ws' := [(t0, .inr (4, [.ref t1, .ref t2, .ref t3, .ref t4, .ref u0, .int (nI 3), .ref t5])), (t1, .inl (cI, 6, .inl (cN (fun _ => 0)))), (t2, .inl (cI, 6, .inl (cN (fun _ => 0)))), (t3, .inl (cI, 6, .inl (cN (fun _ => 0)))), (t4, .inl (cZ, 6, .inl (cB (fun _ => false)))), (t5, .inl (cI, 6, .inl (cN (fun _ => 0)))), (u0, .inr (1, [.ref u1, .int (nI 0)])), (u1, .inl (cI, 6, .inl (cN (fun _ => 0))))]) [0, 1, 2, 3, 4, 7, 5, 6] (by decide) rfl
  refine kret 60 _ _ _ t1 t2 t3 t4 t5 u0 u1  dX4_init_60 hP hD hS

set_option maxHeartbeats 4000000 in
set_option maxRecDepth 100000 in
theorem c_X4_init (l : Launch) (dC : Nat → ClassId) (dI : Nat → Nat → Nat) (cI cZ cG : ClassId) (t0 : Nat) (sz : Nat)  : Met l yX4_init wsX4_init ({ frames := 2, cells := 7, slots := 38, locals := 32 } : Room) (va_Pc [.ref t0] (fun U => U.heap.size = sz ∧ va_P (dC, dI) vwCl [(t0, .inr (4, [.null, .null, .null, .null, .null, .int (nI 0), .null]))] U.heap ∧ va_K (dC, dI) vwCl [(cI, .int), (cZ, .boolean), (cG, .array .int)] U ∧ va_D (fun _ => True) [(t0, .inr (4, [.null, .null, .null, .null, .null, .int (nI 0), .null]))] ∧ nX4 U)) (va_Qv (fun (_ : Unit) => True) (fun (_ : Unit) t => ∃ (t1 : Nat) (t2 : Nat) (t3 : Nat) (t4 : Nat) (t5 : Nat) (u0 : Nat) (u1 : Nat), va_P (dC, dI) vwCl [(t0, .inr (4, [.ref t1, .ref t2, .ref t3, .ref t4, .ref u0, .int (nI 3), .ref t5])), (t1, .inl (cI, 6, .inl (cN (fun _ => 0)))), (t2, .inl (cI, 6, .inl (cN (fun _ => 0)))), (t3, .inl (cI, 6, .inl (cN (fun _ => 0)))), (t4, .inl (cZ, 6, .inl (cB (fun _ => false)))), (t5, .inl (cI, 6, .inl (cN (fun _ => 0)))), (u0, .inr (1, [.ref u1, .int (nI 0)])), (u1, .inl (cI, 6, .inl (cN (fun _ => 0))))] t.heap ∧ va_D (va_A [(t0, .inr (4, [.null, .null, .null, .null, .null, .int (nI 0), .null]))] sz) [(t0, .inr (4, [.ref t1, .ref t2, .ref t3, .ref t4, .ref u0, .int (nI 3), .ref t5])), (t1, .inl (cI, 6, .inl (cN (fun _ => 0)))), (t2, .inl (cI, 6, .inl (cN (fun _ => 0)))), (t3, .inl (cI, 6, .inl (cN (fun _ => 0)))), (t4, .inl (cZ, 6, .inl (cB (fun _ => false)))), (t5, .inl (cI, 6, .inl (cN (fun _ => 0)))), (u0, .inr (1, [.ref u1, .int (nI 0)])), (u1, .inl (cI, 6, .inl (cN (fun _ => 0))))]) (va_A [(t0, .inr (4, [.null, .null, .null, .null, .null, .int (nI 0), .null]))] sz)) 7 38 (va_A [(t0, .inr (4, [.null, .null, .null, .null, .null, .int (nI 0), .null]))] sz) := by
  refine Met.ofW (cc := cX4_init) (maxL := 1) (ret := none) (by decide) rfl ?_
  intro p e s m args below meth c s₁ B hml hv
  obtain ⟨rfl, hsz, hP, hK, hD0, hN⟩ := hv
  have hts := atoms_spec (ws := wsX4_init) B.pre
  have hown : s.vm.findClass RX4 = some m.cls := findClass_of_methodNamed B.named
  have hlocks := B.notSynchronized
  have hin : meth.name = "<init>" := (name_of_methodNamed B.named B.method).1
  subst hsz
  have hD := hD0.self (sz := s.heap.size)
  have hA : ∀ q : Nat, s.heap.size ≤ q → va_A [(t0, .inr (4, [.null, .null, .null, .null, .null, .int (nI 0), .null]))] s.heap.size q := fun q h => Or.inr h
  have hl := lv_entry ([.ref t0]) (n := 1) (Nat.le_of_ble_eq_true rfl)
  rw [lg_entry_eq]
  generalize (lg_sl ([.ref t0]) ++ List.replicate (1 - (lg_sl ([.ref t0])).length) Slot.unset).toArray = ls at hl ⊢
  have hl : lv_has ls 1 [(0, .ref t0)] := hl
  have hx := B.exec
  have hb := B.bytes
  exact b_X4_init hx hb hml hown hin hts hK hA t0  hN hP hD va_S.rf hl (fun pcr H locs ls t1 t2 t3 t4 t5 u0 u1  hd hP hD hS => W.vret hx hb B.returns (fun t ht hW => ⟨⟨(), rfl, trivial, t1, t2, t3, t4, t5, u0, u1, by rw [ht]; exact hP, hD⟩, hS.F ht⟩) hS.2.2 hd)
theorem wX5_init_a_int : Cond.arrayClass .int ∈ wsX5_init := by decide +kernel
theorem wX5_init_f15 : Cond.fieldLink RX5 15 "Confroom$Wishes" "estimate" "[I" ∈ wsX5_init := by decide +kernel
theorem wX5_init_f18 : Cond.fieldLink RX5 18 "Confroom$Wishes" "pinned" "[I" ∈ wsX5_init := by decide +kernel
theorem wX5_init_f9 : Cond.fieldLink RX5 9 "Confroom$Wishes" "places" "[I" ∈ wsX5_init := by decide +kernel
theorem wX5_init_oi1 : Cond.methodLink RX5 3 objectInit ∈ wsX5_init := by decide +kernel
theorem wX5_init_oi2 : Cond.instanceMethod objectInit ∈ wsX5_init := by decide +kernel
theorem wX5_init_oi3 : Cond.code objectInit ⟨#[0xb1]⟩ 1 none ∈ wsX5_init := by decide +kernel
theorem wX5_init_X5_u : ∀ w ∈ u_ws RX5 TX5 3, w ∈ wsX5_init := by decide +kernel
set_option maxHeartbeats 4000000 in
set_option maxRecDepth 100000 in
theorem b_X5_init {p : Program} {l : Launch} {e : Env} {s : State} {m : MethodId} {args : Array Value} {below : List Frame} {meth : Method} {c : Code} {Q : State → Prop} {A : Nat → Prop} {dC : Nat → ClassId} {dI : Nat → Nat → Nat} {cI cZ cG : ClassId} (hx : p.tables.exec = Jvm.exec) (hb : c.code = cX5_init) (hml : c.maxLocals = 1) (hown : s.vm.findClass RX5 = some m.cls) (hin : meth.name = "<init>") (hts : ∀ w ∈ wsX5_init, w.before args s = true) (hK : va_K (dC, dI) vwCl [(cI, .int), (cZ, .boolean), (cG, .array .int)] s) (hA : ∀ q : Nat, s.heap.size ≤ q → A q) (w0 : Nat)   {H : Heap} {locs : List Loc} {ls : Array Slot} (hP : va_P (dC, dI) vwCl [(w0, .inr (5, [.null, .null, .null]))] H) (hD : va_D A [(w0, .inr (5, [.null, .null, .null]))]) (hS : va_S A s.heap H locs) (hl : lv_has ls 1 [(0, .ref w0)]) (kret : ∀ (pcr : Nat) (H : Heap) (locs : List Loc) (ls : Array Slot) (w1 : Nat) (w2 : Nat) (w3 : Nat), decode cX5_init pcr = .ok (.return_, 1) → va_P (dC, dI) vwCl [(w0, .inr (5, [.ref w1, .ref w2, .ref w3])), (w1, .inl (cI, 6, .inl (cN (fun _ => 0)))), (w2, .inl (cI, 6, .inl (cN (fun _ => 0)))), (w3, .inl (cI, 6, .inl (cO (fun _ => some 0))))] H → va_D A [(w0, .inr (5, [.ref w1, .ref w2, .ref w3])), (w1, .inl (cI, 6, .inl (cN (fun _ => 0)))), (w2, .inl (cI, 6, .inl (cN (fun _ => 0)))), (w3, .inl (cI, 6, .inl (cO (fun _ => some 0))))] → va_S A s.heap H locs → W p l e ({ frames := 1, cells := 3, slots := 18, locals := 12 } : Room) s m args below meth c H locs 3 18 Q (F0 m pcr ls [])) : W p l e ({ frames := 1, cells := 3, slots := 18, locals := 12 } : Room) s m args below meth c H locs 0 0 Q (F0 m 0 ls []) := by
  refine lv_aload_n hx hb dX5_init_0 rfl (lv_at hl 0 rfl) ?_
  refine W.objInit hx hb hown (hts (.methodLink RX5 3 objectInit) (wX5_init_oi1)) (hts (.instanceMethod objectInit) (wX5_init_oi2)) (hts (.code objectInit ⟨#[0xb1]⟩ 1 none) (wX5_init_oi3)) rfl (by rw [hml]; exact hl.1) rfl dX5_init_1 (Nat.le_of_ble_eq_true rfl) (Nat.le_of_ble_eq_true rfl) ?_
  refine W.eq (g2 := F0 m 4 ls []) rfl ?_
  refine lv_aload_n hx hb dX5_init_4 rfl (lv_at hl 0 rfl) ?_
  refine lv_bipush (v := nI 6) hx hb dX5_init_5 (by decide) ?_
  refine q_newN hx hb (hts _ wX5_init_a_int) hK hP hD hS hA (cN (fun _ => 0)) (fun _ => rfl) (Nat.le_of_ble_eq_true rfl) (Nat.le_of_ble_eq_true rfl) dX5_init_7 (fun w1 H locs hP hD hS => ?_)
  have hP : va_P (dC, dI) vwCl [(w0, .inr (5, [.null, .null, .null])), (w1, .inl (cI, 6, .inl (cN (fun _ => 0))))] H := hP
  have hD : va_D A [(w0, .inr (5, [.null, .null, .null])), (w1, .inl (cI, 6, .inl (cN (fun _ => 0))))] := hD
  refine va_putF (D := (dC, dI)) (ci := 5) (v := .ref w1) (ty := (.array .int)) (C := RX5) (T := TX5) (N := 3) hx hb hts (wX5_init_X5_u) tyX5 tyX5_ok nmX5 hown hK hP hD hS 0 rfl rfl 0 (by decide) (hts (.fieldLink RX5 9 "Confroom$Wishes" "places" "[I") (wX5_init_f9)) (fun _ h9 => h9) rfl hin rfl (by decide +kernel) rfl rfl (Nat.le_of_ble_eq_true rfl) dX5_init_9 (fun H locs hP hD hS => ?_)
  have hP : va_P (dC, dI) vwCl [(w0, .inr (5, [.ref w1, .null, .null])), (w1, .inl (cI, 6, .inl (cN (fun _ => 0))))] H := hP
  have hD : va_D A [(w0, .inr (5, [.ref w1, .null, .null])), (w1, .inl (cI, 6, .inl (cN (fun _ => 0))))] := hD
  refine lv_aload_n hx hb dX5_init_12 rfl (lv_at hl 0 rfl) ?_
  refine lv_bipush (v := nI 6) hx hb dX5_init_13 (by decide) ?_
  refine q_newN hx hb (hts _ wX5_init_a_int) hK hP hD hS hA (cN (fun _ => 0)) (fun _ => rfl) (Nat.le_of_ble_eq_true rfl) (Nat.le_of_ble_eq_true rfl) dX5_init_15 (fun w2 H locs hP hD hS => ?_)
  have hP : va_P (dC, dI) vwCl [(w0, .inr (5, [.ref w1, .null, .null])), (w1, .inl (cI, 6, .inl (cN (fun _ => 0)))), (w2, .inl (cI, 6, .inl (cN (fun _ => 0))))] H := hP
  have hD : va_D A [(w0, .inr (5, [.ref w1, .null, .null])), (w1, .inl (cI, 6, .inl (cN (fun _ => 0)))), (w2, .inl (cI, 6, .inl (cN (fun _ => 0))))] := hD
  refine va_putF (D := (dC, dI)) (ci := 5) (v := .ref w2) (ty := (.array .int)) (C := RX5) (T := TX5) (N := 3) hx hb hts (wX5_init_X5_u) tyX5 tyX5_ok nmX5 hown hK hP hD hS 0 rfl rfl 1 (by decide) (hts (.fieldLink RX5 15 "Confroom$Wishes" "estimate" "[I") (wX5_init_f15)) (fun _ h9 => h9) rfl hin rfl (by decide +kernel) rfl rfl (Nat.le_of_ble_eq_true rfl) dX5_init_17 (fun H locs hP hD hS => ?_)
  have hP : va_P (dC, dI) vwCl [(w0, .inr (5, [.ref w1, .ref w2, .null])), (w1, .inl (cI, 6, .inl (cN (fun _ => 0)))), (w2, .inl (cI, 6, .inl (cN (fun _ => 0))))] H := hP
  have hD : va_D A [(w0, .inr (5, [.ref w1, .ref w2, .null])), (w1, .inl (cI, 6, .inl (cN (fun _ => 0)))), (w2, .inl (cI, 6, .inl (cN (fun _ => 0))))] := hD
  refine lv_aload_n hx hb dX5_init_20 rfl (lv_at hl 0 rfl) ?_
  refine lv_bipush (v := nI 6) hx hb dX5_init_21 (by decide) ?_
  refine q_newN hx hb (hts _ wX5_init_a_int) hK hP hD hS hA (cO (fun _ => some 0)) (fun _ => rfl) (Nat.le_of_ble_eq_true rfl) (Nat.le_of_ble_eq_true rfl) dX5_init_23 (fun w3 H locs hP hD hS => ?_)
  have hP : va_P (dC, dI) vwCl [(w0, .inr (5, [.ref w1, .ref w2, .null])), (w1, .inl (cI, 6, .inl (cN (fun _ => 0)))), (w2, .inl (cI, 6, .inl (cN (fun _ => 0)))), (w3, .inl (cI, 6, .inl (cO (fun _ => some 0))))] H := hP
  have hD : va_D A [(w0, .inr (5, [.ref w1, .ref w2, .null])), (w1, .inl (cI, 6, .inl (cN (fun _ => 0)))), (w2, .inl (cI, 6, .inl (cN (fun _ => 0)))), (w3, .inl (cI, 6, .inl (cO (fun _ => some 0))))] := hD
  refine va_putF (D := (dC, dI)) (ci := 5) (v := .ref w3) (ty := (.array .int)) (C := RX5) (T := TX5) (N := 3) hx hb hts (wX5_init_X5_u) tyX5 tyX5_ok nmX5 hown hK hP hD hS 0 rfl rfl 2 (by decide) (hts (.fieldLink RX5 18 "Confroom$Wishes" "pinned" "[I") (wX5_init_f18)) (fun _ h9 => h9) rfl hin rfl (by decide +kernel) rfl rfl (Nat.le_of_ble_eq_true rfl) dX5_init_25 (fun H locs hP hD hS => ?_)
  have hP : va_P (dC, dI) vwCl [(w0, .inr (5, [.ref w1, .ref w2, .ref w3])), (w1, .inl (cI, 6, .inl (cN (fun _ => 0)))), (w2, .inl (cI, 6, .inl (cN (fun _ => 0)))), (w3, .inl (cI, 6, .inl (cO (fun _ => some 0))))] H := hP
  have hD : va_D A [(w0, .inr (5, [.ref w1, .ref w2, .ref w3])), (w1, .inl (cI, 6, .inl (cN (fun _ => 0)))), (w2, .inl (cI, 6, .inl (cN (fun _ => 0)))), (w3, .inl (cI, 6, .inl (cO (fun _ => some 0))))] := hD
  refine kret 28 _ _ _ w1 w2 w3  dX5_init_28 hP hD hS

set_option maxHeartbeats 4000000 in
set_option maxRecDepth 100000 in
theorem c_X5_init (l : Launch) (dC : Nat → ClassId) (dI : Nat → Nat → Nat) (cI cZ cG : ClassId) (w0 : Nat) (sz : Nat)  : Met l yX5_init wsX5_init ({ frames := 1, cells := 3, slots := 18, locals := 12 } : Room) (va_Pc [.ref w0] (fun U => U.heap.size = sz ∧ va_P (dC, dI) vwCl [(w0, .inr (5, [.null, .null, .null]))] U.heap ∧ va_K (dC, dI) vwCl [(cI, .int), (cZ, .boolean), (cG, .array .int)] U ∧ va_D (fun _ => True) [(w0, .inr (5, [.null, .null, .null]))])) (va_Qv (fun (_ : Unit) => True) (fun (_ : Unit) t => ∃ (w1 : Nat) (w2 : Nat) (w3 : Nat), va_P (dC, dI) vwCl [(w0, .inr (5, [.ref w1, .ref w2, .ref w3])), (w1, .inl (cI, 6, .inl (cN (fun _ => 0)))), (w2, .inl (cI, 6, .inl (cN (fun _ => 0)))), (w3, .inl (cI, 6, .inl (cO (fun _ => some 0))))] t.heap ∧ va_D (va_A [(w0, .inr (5, [.null, .null, .null]))] sz) [(w0, .inr (5, [.ref w1, .ref w2, .ref w3])), (w1, .inl (cI, 6, .inl (cN (fun _ => 0)))), (w2, .inl (cI, 6, .inl (cN (fun _ => 0)))), (w3, .inl (cI, 6, .inl (cO (fun _ => some 0))))]) (va_A [(w0, .inr (5, [.null, .null, .null]))] sz)) 3 18 (va_A [(w0, .inr (5, [.null, .null, .null]))] sz) := by
  refine Met.ofW (cc := cX5_init) (maxL := 1) (ret := none) (by decide) rfl ?_
  intro p e s m args below meth c s₁ B hml hv
  obtain ⟨rfl, hsz, hP, hK, hD0⟩ := hv
  have hts := atoms_spec (ws := wsX5_init) B.pre
  have hown : s.vm.findClass RX5 = some m.cls := findClass_of_methodNamed B.named
  have hlocks := B.notSynchronized
  have hin : meth.name = "<init>" := (name_of_methodNamed B.named B.method).1
  subst hsz
  have hD := hD0.self (sz := s.heap.size)
  have hA : ∀ q : Nat, s.heap.size ≤ q → va_A [(w0, .inr (5, [.null, .null, .null]))] s.heap.size q := fun q h => Or.inr h
  have hl := lv_entry ([.ref w0]) (n := 1) (Nat.le_of_ble_eq_true rfl)
  rw [lg_entry_eq]
  generalize (lg_sl ([.ref w0]) ++ List.replicate (1 - (lg_sl ([.ref w0])).length) Slot.unset).toArray = ls at hl ⊢
  have hl : lv_has ls 1 [(0, .ref w0)] := hl
  have hx := B.exec
  have hb := B.bytes
  exact b_X5_init hx hb hml hown hin hts hK hA w0   hP hD va_S.rf hl (fun pcr H locs ls w1 w2 w3  hd hP hD hS => W.vret hx hb B.returns (fun t ht hW => ⟨⟨(), rfl, trivial, w1, w2, w3, by rw [ht]; exact hP, hD⟩, hS.F ht⟩) hS.2.2 hd)
theorem wX3_init_a_int : Cond.arrayClass .int ∈ wsX3_init := by decide +kernel
theorem wX3_init_f15 : Cond.fieldLink RX3 15 "Confroom$Sharing" "rest" "I" ∈ wsX3_init := by decide +kernel
theorem wX3_init_f9 : Cond.fieldLink RX3 9 "Confroom$Sharing" "given" "[I" ∈ wsX3_init := by decide +kernel
theorem wX3_init_oi1 : Cond.methodLink RX3 3 objectInit ∈ wsX3_init := by decide +kernel
theorem wX3_init_oi2 : Cond.instanceMethod objectInit ∈ wsX3_init := by decide +kernel
theorem wX3_init_oi3 : Cond.code objectInit ⟨#[0xb1]⟩ 1 none ∈ wsX3_init := by decide +kernel
theorem wX3_init_X3_u : ∀ w ∈ u_ws RX3 TX3 2, w ∈ wsX3_init := by decide +kernel
set_option maxHeartbeats 4000000 in
set_option maxRecDepth 100000 in
theorem b_X3_init {p : Program} {l : Launch} {e : Env} {s : State} {m : MethodId} {args : Array Value} {below : List Frame} {meth : Method} {c : Code} {Q : State → Prop} {A : Nat → Prop} {dC : Nat → ClassId} {dI : Nat → Nat → Nat} {cI cZ cG : ClassId} (hx : p.tables.exec = Jvm.exec) (hb : c.code = cX3_init) (hml : c.maxLocals = 1) (hown : s.vm.findClass RX3 = some m.cls) (hin : meth.name = "<init>") (hts : ∀ w ∈ wsX3_init, w.before args s = true) (hK : va_K (dC, dI) vwCl [(cI, .int), (cZ, .boolean), (cG, .array .int)] s) (hA : ∀ q : Nat, s.heap.size ≤ q → A q) (g0 : Nat)   {H : Heap} {locs : List Loc} {ls : Array Slot} (hP : va_P (dC, dI) vwCl [(g0, .inr (3, [.null, .int (nI 0)]))] H) (hD : va_D A [(g0, .inr (3, [.null, .int (nI 0)]))]) (hS : va_S A s.heap H locs) (hl : lv_has ls 1 [(0, .ref g0)]) (kret : ∀ (pcr : Nat) (H : Heap) (locs : List Loc) (ls : Array Slot) (g1 : Nat), decode cX3_init pcr = .ok (.return_, 1) → va_P (dC, dI) vwCl [(g0, .inr (3, [.ref g1, .int (nI 0)])), (g1, .inl (cI, 6, .inl (cN (fun _ => 0))))] H → va_D A [(g0, .inr (3, [.ref g1, .int (nI 0)])), (g1, .inl (cI, 6, .inl (cN (fun _ => 0))))] → va_S A s.heap H locs → W p l e ({ frames := 1, cells := 1, slots := 6, locals := 12 } : Room) s m args below meth c H locs 1 6 Q (F0 m pcr ls [])) : W p l e ({ frames := 1, cells := 1, slots := 6, locals := 12 } : Room) s m args below meth c H locs 0 0 Q (F0 m 0 ls []) := by
  refine lv_aload_n hx hb dX3_init_0 rfl (lv_at hl 0 rfl) ?_
  refine W.objInit hx hb hown (hts (.methodLink RX3 3 objectInit) (wX3_init_oi1)) (hts (.instanceMethod objectInit) (wX3_init_oi2)) (hts (.code objectInit ⟨#[0xb1]⟩ 1 none) (wX3_init_oi3)) rfl (by rw [hml]; exact hl.1) rfl dX3_init_1 (Nat.le_of_ble_eq_true rfl) (Nat.le_of_ble_eq_true rfl) ?_
  refine W.eq (g2 := F0 m 4 ls []) rfl ?_
  refine lv_aload_n hx hb dX3_init_4 rfl (lv_at hl 0 rfl) ?_
  refine lv_bipush (v := nI 6) hx hb dX3_init_5 (by decide) ?_
  refine q_newN hx hb (hts _ wX3_init_a_int) hK hP hD hS hA (cN (fun _ => 0)) (fun _ => rfl) (Nat.le_of_ble_eq_true rfl) (Nat.le_of_ble_eq_true rfl) dX3_init_7 (fun g1 H locs hP hD hS => ?_)
  have hP : va_P (dC, dI) vwCl [(g0, .inr (3, [.null, .int (nI 0)])), (g1, .inl (cI, 6, .inl (cN (fun _ => 0))))] H := hP
  have hD : va_D A [(g0, .inr (3, [.null, .int (nI 0)])), (g1, .inl (cI, 6, .inl (cN (fun _ => 0))))] := hD
  refine va_putF (D := (dC, dI)) (ci := 3) (v := .ref g1) (ty := (.array .int)) (C := RX3) (T := TX3) (N := 2) hx hb hts (wX3_init_X3_u) tyX3 tyX3_ok nmX3 hown hK hP hD hS 0 rfl rfl 0 (by decide) (hts (.fieldLink RX3 9 "Confroom$Sharing" "given" "[I") (wX3_init_f9)) (fun _ h9 => h9) rfl hin rfl (by decide +kernel) rfl rfl (Nat.le_of_ble_eq_true rfl) dX3_init_9 (fun H locs hP hD hS => ?_)
  have hP : va_P (dC, dI) vwCl [(g0, .inr (3, [.ref g1, .int (nI 0)])), (g1, .inl (cI, 6, .inl (cN (fun _ => 0))))] H := hP
  have hD : va_D A [(g0, .inr (3, [.ref g1, .int (nI 0)])), (g1, .inl (cI, 6, .inl (cN (fun _ => 0))))] := hD
  refine lv_aload_n hx hb dX3_init_12 rfl (lv_at hl 0 rfl) ?_
  refine lv_iconst (v := nI 0) hx hb dX3_init_13 (by decide) ?_
  refine va_put (D := (dC, dI)) (ci := 3) (v := .int (nI 0)) (ty := .int) (C := RX3) (T := TX3) (N := 2) hx hb hts (wX3_init_X3_u) tyX3 tyX3_ok nmX3 hown hK hP hD hS 0 rfl rfl 1 (by decide) (hts (.fieldLink RX3 15 "Confroom$Sharing" "rest" "I") (wX3_init_f15)) (fun _ h9 => h9) rfl (by decide +kernel) rfl rfl (Nat.le_of_ble_eq_true rfl) dX3_init_14 (fun H locs hP hD hS => ?_)
  have hP : va_P (dC, dI) vwCl [(g0, .inr (3, [.ref g1, .int (nI 0)])), (g1, .inl (cI, 6, .inl (cN (fun _ => 0))))] H := hP
  have hD : va_D A [(g0, .inr (3, [.ref g1, .int (nI 0)])), (g1, .inl (cI, 6, .inl (cN (fun _ => 0))))] := hD
  refine kret 17 _ _ _ g1  dX3_init_17 hP hD hS

set_option maxHeartbeats 4000000 in
set_option maxRecDepth 100000 in
theorem c_X3_init (l : Launch) (dC : Nat → ClassId) (dI : Nat → Nat → Nat) (cI cZ cG : ClassId) (g0 : Nat) (sz : Nat)  : Met l yX3_init wsX3_init ({ frames := 1, cells := 1, slots := 6, locals := 12 } : Room) (va_Pc [.ref g0] (fun U => U.heap.size = sz ∧ va_P (dC, dI) vwCl [(g0, .inr (3, [.null, .int (nI 0)]))] U.heap ∧ va_K (dC, dI) vwCl [(cI, .int), (cZ, .boolean), (cG, .array .int)] U ∧ va_D (fun _ => True) [(g0, .inr (3, [.null, .int (nI 0)]))])) (va_Qv (fun (_ : Unit) => True) (fun (_ : Unit) t => ∃ (g1 : Nat), va_P (dC, dI) vwCl [(g0, .inr (3, [.ref g1, .int (nI 0)])), (g1, .inl (cI, 6, .inl (cN (fun _ => 0))))] t.heap ∧ va_D (va_A [(g0, .inr (3, [.null, .int (nI 0)]))] sz) [(g0, .inr (3, [.ref g1, .int (nI 0)])), (g1, .inl (cI, 6, .inl (cN (fun _ => 0))))]) (va_A [(g0, .inr (3, [.null, .int (nI 0)]))] sz)) 1 6 (va_A [(g0, .inr (3, [.null, .int (nI 0)]))] sz) := by
  refine Met.ofW (cc := cX3_init) (maxL := 1) (ret := none) (by decide) rfl ?_
  intro p e s m args below meth c s₁ B hml hv
  obtain ⟨rfl, hsz, hP, hK, hD0⟩ := hv
  have hts := atoms_spec (ws := wsX3_init) B.pre
  have hown : s.vm.findClass RX3 = some m.cls := findClass_of_methodNamed B.named
  have hlocks := B.notSynchronized
  have hin : meth.name = "<init>" := (name_of_methodNamed B.named B.method).1
  subst hsz
  have hD := hD0.self (sz := s.heap.size)
  have hA : ∀ q : Nat, s.heap.size ≤ q → va_A [(g0, .inr (3, [.null, .int (nI 0)]))] s.heap.size q := fun q h => Or.inr h
  have hl := lv_entry ([.ref g0]) (n := 1) (Nat.le_of_ble_eq_true rfl)
  rw [lg_entry_eq]
  generalize (lg_sl ([.ref g0]) ++ List.replicate (1 - (lg_sl ([.ref g0])).length) Slot.unset).toArray = ls at hl ⊢
  have hl : lv_has ls 1 [(0, .ref g0)] := hl
  have hx := B.exec
  have hb := B.bytes
  exact b_X3_init hx hb hml hown hin hts hK hA g0   hP hD va_S.rf hl (fun pcr H locs ls g1  hd hP hD hS => W.vret hx hb B.returns (fun t ht hW => ⟨⟨(), rfl, trivial, g1, by rw [ht]; exact hP, hD⟩, hS.F ht⟩) hS.2.2 hd)
theorem wX2_init_a_int : Cond.arrayClass .int ∈ wsX2_init := by decide +kernel
theorem wX2_init_c9 : Cond.classLink RX2 9 "[[I" ∈ wsX2_init := by decide +kernel
theorem wX2_init_f11 : Cond.fieldLink RX2 11 "Confroom$Links" "layers" "[[I" ∈ wsX2_init := by decide +kernel
theorem wX2_init_f16 : Cond.fieldLink RX2 16 "Confroom$Links" "targets" "[[I" ∈ wsX2_init := by decide +kernel
theorem wX2_init_oi1 : Cond.methodLink RX2 3 objectInit ∈ wsX2_init := by decide +kernel
theorem wX2_init_oi2 : Cond.instanceMethod objectInit ∈ wsX2_init := by decide +kernel
theorem wX2_init_oi3 : Cond.code objectInit ⟨#[0xb1]⟩ 1 none ∈ wsX2_init := by decide +kernel
theorem wX2_init_X2_u : ∀ w ∈ u_ws RX2 TX2 2, w ∈ wsX2_init := by decide +kernel
set_option maxHeartbeats 4000000 in
set_option maxRecDepth 100000 in
theorem b_X2_init {p : Program} {l : Launch} {e : Env} {s : State} {m : MethodId} {args : Array Value} {below : List Frame} {meth : Method} {c : Code} {Q : State → Prop} {A : Nat → Prop} {dC : Nat → ClassId} {dI : Nat → Nat → Nat} {cI cZ cG : ClassId} (hx : p.tables.exec = Jvm.exec) (hb : c.code = cX2_init) (hml : c.maxLocals = 1) (hown : s.vm.findClass RX2 = some m.cls) (hin : meth.name = "<init>") (hts : ∀ w ∈ wsX2_init, w.before args s = true) (hK : va_K (dC, dI) vwCl [(cI, .int), (cZ, .boolean), (cG, .array .int)] s) (hA : ∀ q : Nat, s.heap.size ≤ q → A q) (k0 : Nat)  (hN : nX2 s) {H : Heap} {locs : List Loc} {ls : Array Slot} (hP : va_P (dC, dI) vwCl [(k0, .inr (2, [.null, .null]))] H) (hD : va_D A [(k0, .inr (2, [.null, .null]))]) (hS : va_S A s.heap H locs) (hl : lv_has ls 1 [(0, .ref k0)]) (kret : ∀ (pcr : Nat) (H : Heap) (locs : List Loc) (ls : Array Slot) (k1 : Nat) (k2 : Nat) (ra : Nat → Nat) (rt : Nat → Nat), decode cX2_init pcr = .ok (.return_, 1) → va_P (dC, dI) vwCl [(k0, .inr (2, [.ref k1, .ref k2])), (k1, .inl (cG, 6, .inr (.inr (.inr (.inr (rf6 ra)))))), (ra 0, .inl (cI, 6, .inl (cN ((fun _ _ => 0) 0)))), (ra 1, .inl (cI, 6, .inl (cN ((fun _ _ => 0) 1)))), (ra 2, .inl (cI, 6, .inl (cN ((fun _ _ => 0) 2)))), (ra 3, .inl (cI, 6, .inl (cN ((fun _ _ => 0) 3)))), (ra 4, .inl (cI, 6, .inl (cN ((fun _ _ => 0) 4)))), (ra 5, .inl (cI, 6, .inl (cN ((fun _ _ => 0) 5)))), (k2, .inl (cG, 6, .inr (.inr (.inr (.inr (rf6 rt)))))), (rt 0, .inl (cI, 6, .inl (cN ((fun _ _ => 0) 0)))), (rt 1, .inl (cI, 6, .inl (cN ((fun _ _ => 0) 1)))), (rt 2, .inl (cI, 6, .inl (cN ((fun _ _ => 0) 2)))), (rt 3, .inl (cI, 6, .inl (cN ((fun _ _ => 0) 3)))), (rt 4, .inl (cI, 6, .inl (cN ((fun _ _ => 0) 4)))), (rt 5, .inl (cI, 6, .inl (cN ((fun _ _ => 0) 5))))] H → va_D A [(k0, .inr (2, [.ref k1, .ref k2])), (k1, .inl (cG, 6, .inr (.inr (.inr (.inr (rf6 ra)))))), (ra 0, .inl (cI, 6, .inl (cN ((fun _ _ => 0) 0)))), (ra 1, .inl (cI, 6, .inl (cN ((fun _ _ => 0) 1)))), (ra 2, .inl (cI, 6, .inl (cN ((fun _ _ => 0) 2)))), (ra 3, .inl (cI, 6, .inl (cN ((fun _ _ => 0) 3)))), (ra 4, .inl (cI, 6, .inl (cN ((fun _ _ => 0) 4)))), (ra 5, .inl (cI, 6, .inl (cN ((fun _ _ => 0) 5)))), (k2, .inl (cG, 6, .inr (.inr (.inr (.inr (rf6 rt)))))), (rt 0, .inl (cI, 6, .inl (cN ((fun _ _ => 0) 0)))), (rt 1, .inl (cI, 6, .inl (cN ((fun _ _ => 0) 1)))), (rt 2, .inl (cI, 6, .inl (cN ((fun _ _ => 0) 2)))), (rt 3, .inl (cI, 6, .inl (cN ((fun _ _ => 0) 3)))), (rt 4, .inl (cI, 6, .inl (cN ((fun _ _ => 0) 4)))), (rt 5, .inl (cI, 6, .inl (cN ((fun _ _ => 0) 5))))] → va_S A s.heap H locs → W p l e ({ frames := 1, cells := 14, slots := 84, locals := 12 } : Room) s m args below meth c H locs 14 84 Q (F0 m pcr ls [])) : W p l e ({ frames := 1, cells := 14, slots := 84, locals := 12 } : Room) s m args below meth c H locs 0 0 Q (F0 m 0 ls []) := by
  refine lv_aload_n hx hb dX2_init_0 rfl (lv_at hl 0 rfl) ?_
  refine W.objInit hx hb hown (hts (.methodLink RX2 3 objectInit) (wX2_init_oi1)) (hts (.instanceMethod objectInit) (wX2_init_oi2)) (hts (.code objectInit ⟨#[0xb1]⟩ 1 none) (wX2_init_oi3)) rfl (by rw [hml]; exact hl.1) rfl dX2_init_1 (Nat.le_of_ble_eq_true rfl) (Nat.le_of_ble_eq_true rfl) ?_
  refine W.eq (g2 := F0 m 4 ls []) rfl ?_
  refine lv_aload_n hx hb dX2_init_4 rfl (lv_at hl 0 rfl) ?_
  refine lv_bipush (v := nI 6) hx hb dX2_init_5 (by decide) ?_
  refine lv_bipush (v := nI 6) hx hb dX2_init_7 (by decide) ?_
  refine q_mna hx hb hown (hts _ wX2_init_c9) hN (hts _ wX2_init_a_int) hK hP hD hS hA (Nat.le_of_ble_eq_true rfl) (Nat.le_of_ble_eq_true rfl) dX2_init_9 (fun k1 ra H locs hP hD hS => ?_)
  have hP : va_P (dC, dI) vwCl [(k0, .inr (2, [.null, .null])), (k1, .inl (cG, 6, .inr (.inr (.inr (.inr (rf6 ra)))))), (ra 0, .inl (cI, 6, .inl (cN ((fun _ _ => 0) 0)))), (ra 1, .inl (cI, 6, .inl (cN ((fun _ _ => 0) 1)))), (ra 2, .inl (cI, 6, .inl (cN ((fun _ _ => 0) 2)))), (ra 3, .inl (cI, 6, .inl (cN ((fun _ _ => 0) 3)))), (ra 4, .inl (cI, 6, .inl (cN ((fun _ _ => 0) 4)))), (ra 5, .inl (cI, 6, .inl (cN ((fun _ _ => 0) 5))))] H := hP
  have hD : va_D A [(k0, .inr (2, [.null, .null])), (k1, .inl (cG, 6, .inr (.inr (.inr (.inr (rf6 ra)))))), (ra 0, .inl (cI, 6, .inl (cN ((fun _ _ => 0) 0)))), (ra 1, .inl (cI, 6, .inl (cN ((fun _ _ => 0) 1)))), (ra 2, .inl (cI, 6, .inl (cN ((fun _ _ => 0) 2)))), (ra 3, .inl (cI, 6, .inl (cN ((fun _ _ => 0) 3)))), (ra 4, .inl (cI, 6, .inl (cN ((fun _ _ => 0) 4)))), (ra 5, .inl (cI, 6, .inl (cN ((fun _ _ => 0) 5))))] := hD
  refine va_putF (D := (dC, dI)) (ci := 2) (v := .ref k1) (ty := (.array (.array .int))) (C := RX2) (T := TX2) (N := 2) hx hb hts (wX2_init_X2_u) tyX2 tyX2_ok nmX2 hown hK hP hD hS 0 rfl rfl 0 (by decide) (hts (.fieldLink RX2 11 "Confroom$Links" "layers" "[[I") (wX2_init_f11)) (fun _ h9 => h9) rfl hin rfl (by decide +kernel) rfl rfl (Nat.le_of_ble_eq_true rfl) dX2_init_13 (fun H locs hP hD hS => ?_)
  have hP : va_P (dC, dI) vwCl [(k0, .inr (2, [.ref k1, .null])), (k1, .inl (cG, 6, .inr (.inr (.inr (.inr (rf6 ra)))))), (ra 0, .inl (cI, 6, .inl (cN ((fun _ _ => 0) 0)))), (ra 1, .inl (cI, 6, .inl (cN ((fun _ _ => 0) 1)))), (ra 2, .inl (cI, 6, .inl (cN ((fun _ _ => 0) 2)))), (ra 3, .inl (cI, 6, .inl (cN ((fun _ _ => 0) 3)))), (ra 4, .inl (cI, 6, .inl (cN ((fun _ _ => 0) 4)))), (ra 5, .inl (cI, 6, .inl (cN ((fun _ _ => 0) 5))))] H := hP
  have hD : va_D A [(k0, .inr (2, [.ref k1, .null])), (k1, .inl (cG, 6, .inr (.inr (.inr (.inr (rf6 ra)))))), (ra 0, .inl (cI, 6, .inl (cN ((fun _ _ => 0) 0)))), (ra 1, .inl (cI, 6, .inl (cN ((fun _ _ => 0) 1)))), (ra 2, .inl (cI, 6, .inl (cN ((fun _ _ => 0) 2)))), (ra 3, .inl (cI, 6, .inl (cN ((fun _ _ => 0) 3)))), (ra 4, .inl (cI, 6, .inl (cN ((fun _ _ => 0) 4)))), (ra 5, .inl (cI, 6, .inl (cN ((fun _ _ => 0) 5))))] := hD
  refine lv_aload_n hx hb dX2_init_16 rfl (lv_at hl 0 rfl) ?_
  refine lv_bipush (v := nI 6) hx hb dX2_init_17 (by decide) ?_
  refine lv_bipush (v := nI 6) hx hb dX2_init_19 (by decide) ?_
  refine q_mna hx hb hown (hts _ wX2_init_c9) hN (hts _ wX2_init_a_int) hK hP hD hS hA (Nat.le_of_ble_eq_true rfl) (Nat.le_of_ble_eq_true rfl) dX2_init_21 (fun k2 rt H locs hP hD hS => ?_)
  have hP : va_P (dC, dI) vwCl [(k0, .inr (2, [.ref k1, .null])), (k1, .inl (cG, 6, .inr (.inr (.inr (.inr (rf6 ra)))))), (ra 0, .inl (cI, 6, .inl (cN ((fun _ _ => 0) 0)))), (ra 1, .inl (cI, 6, .inl (cN ((fun _ _ => 0) 1)))), (ra 2, .inl (cI, 6, .inl (cN ((fun _ _ => 0) 2)))), (ra 3, .inl (cI, 6, .inl (cN ((fun _ _ => 0) 3)))), (ra 4, .inl (cI, 6, .inl (cN ((fun _ _ => 0) 4)))), (ra 5, .inl (cI, 6, .inl (cN ((fun _ _ => 0) 5)))), (k2, .inl (cG, 6, .inr (.inr (.inr (.inr (rf6 rt)))))), (rt 0, .inl (cI, 6, .inl (cN ((fun _ _ => 0) 0)))), (rt 1, .inl (cI, 6, .inl (cN ((fun _ _ => 0) 1)))), (rt 2, .inl (cI, 6, .inl (cN ((fun _ _ => 0) 2)))), (rt 3, .inl (cI, 6, .inl (cN ((fun _ _ => 0) 3)))), (rt 4, .inl (cI, 6, .inl (cN ((fun _ _ => 0) 4)))), (rt 5, .inl (cI, 6, .inl (cN ((fun _ _ => 0) 5))))] H := hP
  have hD : va_D A [(k0, .inr (2, [.ref k1, .null])), (k1, .inl (cG, 6, .inr (.inr (.inr (.inr (rf6 ra)))))), (ra 0, .inl (cI, 6, .inl (cN ((fun _ _ => 0) 0)))), (ra 1, .inl (cI, 6, .inl (cN ((fun _ _ => 0) 1)))), (ra 2, .inl (cI, 6, .inl (cN ((fun _ _ => 0) 2)))), (ra 3, .inl (cI, 6, .inl (cN ((fun _ _ => 0) 3)))), (ra 4, .inl (cI, 6, .inl (cN ((fun _ _ => 0) 4)))), (ra 5, .inl (cI, 6, .inl (cN ((fun _ _ => 0) 5)))), (k2, .inl (cG, 6, .inr (.inr (.inr (.inr (rf6 rt)))))), (rt 0, .inl (cI, 6, .inl (cN ((fun _ _ => 0) 0)))), (rt 1, .inl (cI, 6, .inl (cN ((fun _ _ => 0) 1)))), (rt 2, .inl (cI, 6, .inl (cN ((fun _ _ => 0) 2)))), (rt 3, .inl (cI, 6, .inl (cN ((fun _ _ => 0) 3)))), (rt 4, .inl (cI, 6, .inl (cN ((fun _ _ => 0) 4)))), (rt 5, .inl (cI, 6, .inl (cN ((fun _ _ => 0) 5))))] := hD
  refine va_putF (D := (dC, dI)) (ci := 2) (v := .ref k2) (ty := (.array (.array .int))) (C := RX2) (T := TX2) (N := 2) hx hb hts (wX2_init_X2_u) tyX2 tyX2_ok nmX2 hown hK hP hD hS 0 rfl rfl 1 (by decide) (hts (.fieldLink RX2 16 "Confroom$Links" "targets" "[[I") (wX2_init_f16)) (fun _ h9 => h9) rfl hin rfl (by decide +kernel) rfl rfl (Nat.le_of_ble_eq_true rfl) dX2_init_25 (fun H locs hP hD hS => ?_)
  have hP : va_P (dC, dI) vwCl [(k0, .inr (2, [.ref k1, .ref k2])), (k1, .inl (cG, 6, .inr (.inr (.inr (.inr (rf6 ra)))))), (ra 0, .inl (cI, 6, .inl (cN ((fun _ _ => 0) 0)))), (ra 1, .inl (cI, 6, .inl (cN ((fun _ _ => 0) 1)))), (ra 2, .inl (cI, 6, .inl (cN ((fun _ _ => 0) 2)))), (ra 3, .inl (cI, 6, .inl (cN ((fun _ _ => 0) 3)))), (ra 4, .inl (cI, 6, .inl (cN ((fun _ _ => 0) 4)))), (ra 5, .inl (cI, 6, .inl (cN ((fun _ _ => 0) 5)))), (k2, .inl (cG, 6, .inr (.inr (.inr (.inr (rf6 rt)))))), (rt 0, .inl (cI, 6, .inl (cN ((fun _ _ => 0) 0)))), (rt 1, .inl (cI, 6, .inl (cN ((fun _ _ => 0) 1)))), (rt 2, .inl (cI, 6, .inl (cN ((fun _ _ => 0) 2)))), (rt 3, .inl (cI, 6, .inl (cN ((fun _ _ => 0) 3)))), (rt 4, .inl (cI, 6, .inl (cN ((fun _ _ => 0) 4)))), (rt 5, .inl (cI, 6, .inl (cN ((fun _ _ => 0) 5))))] H := hP
  have hD : va_D A [(k0, .inr (2, [.ref k1, .ref k2])), (k1, .inl (cG, 6, .inr (.inr (.inr (.inr (rf6 ra)))))), (ra 0, .inl (cI, 6, .inl (cN ((fun _ _ => 0) 0)))), (ra 1, .inl (cI, 6, .inl (cN ((fun _ _ => 0) 1)))), (ra 2, .inl (cI, 6, .inl (cN ((fun _ _ => 0) 2)))), (ra 3, .inl (cI, 6, .inl (cN ((fun _ _ => 0) 3)))), (ra 4, .inl (cI, 6, .inl (cN ((fun _ _ => 0) 4)))), (ra 5, .inl (cI, 6, .inl (cN ((fun _ _ => 0) 5)))), (k2, .inl (cG, 6, .inr (.inr (.inr (.inr (rf6 rt)))))), (rt 0, .inl (cI, 6, .inl (cN ((fun _ _ => 0) 0)))), (rt 1, .inl (cI, 6, .inl (cN ((fun _ _ => 0) 1)))), (rt 2, .inl (cI, 6, .inl (cN ((fun _ _ => 0) 2)))), (rt 3, .inl (cI, 6, .inl (cN ((fun _ _ => 0) 3)))), (rt 4, .inl (cI, 6, .inl (cN ((fun _ _ => 0) 4)))), (rt 5, .inl (cI, 6, .inl (cN ((fun _ _ => 0) 5))))] := hD
  refine kret 28 _ _ _ k1 k2 ra rt  dX2_init_28 hP hD hS

set_option maxHeartbeats 4000000 in
set_option maxRecDepth 100000 in
theorem c_X2_init (l : Launch) (dC : Nat → ClassId) (dI : Nat → Nat → Nat) (cI cZ cG : ClassId) (k0 : Nat) (sz : Nat)  : Met l yX2_init wsX2_init ({ frames := 1, cells := 14, slots := 84, locals := 12 } : Room) (va_Pc [.ref k0] (fun U => U.heap.size = sz ∧ va_P (dC, dI) vwCl [(k0, .inr (2, [.null, .null]))] U.heap ∧ va_K (dC, dI) vwCl [(cI, .int), (cZ, .boolean), (cG, .array .int)] U ∧ va_D (fun _ => True) [(k0, .inr (2, [.null, .null]))] ∧ nX2 U)) (va_Qv (fun (_ : Unit) => True) (fun (_ : Unit) t => ∃ (k1 : Nat) (k2 : Nat) (ra : Nat → Nat) (rt : Nat → Nat), va_P (dC, dI) vwCl [(k0, .inr (2, [.ref k1, .ref k2])), (k1, .inl (cG, 6, .inr (.inr (.inr (.inr (rf6 ra)))))), (ra 0, .inl (cI, 6, .inl (cN ((fun _ _ => 0) 0)))), (ra 1, .inl (cI, 6, .inl (cN ((fun _ _ => 0) 1)))), (ra 2, .inl (cI, 6, .inl (cN ((fun _ _ => 0) 2)))), (ra 3, .inl (cI, 6, .inl (cN ((fun _ _ => 0) 3)))), (ra 4, .inl (cI, 6, .inl (cN ((fun _ _ => 0) 4)))), (ra 5, .inl (cI, 6, .inl (cN ((fun _ _ => 0) 5)))), (k2, .inl (cG, 6, .inr (.inr (.inr (.inr (rf6 rt)))))), (rt 0, .inl (cI, 6, .inl (cN ((fun _ _ => 0) 0)))), (rt 1, .inl (cI, 6, .inl (cN ((fun _ _ => 0) 1)))), (rt 2, .inl (cI, 6, .inl (cN ((fun _ _ => 0) 2)))), (rt 3, .inl (cI, 6, .inl (cN ((fun _ _ => 0) 3)))), (rt 4, .inl (cI, 6, .inl (cN ((fun _ _ => 0) 4)))), (rt 5, .inl (cI, 6, .inl (cN ((fun _ _ => 0) 5))))] t.heap ∧ va_D (va_A [(k0, .inr (2, [.null, .null]))] sz) [(k0, .inr (2, [.ref k1, .ref k2])), (k1, .inl (cG, 6, .inr (.inr (.inr (.inr (rf6 ra)))))), (ra 0, .inl (cI, 6, .inl (cN ((fun _ _ => 0) 0)))), (ra 1, .inl (cI, 6, .inl (cN ((fun _ _ => 0) 1)))), (ra 2, .inl (cI, 6, .inl (cN ((fun _ _ => 0) 2)))), (ra 3, .inl (cI, 6, .inl (cN ((fun _ _ => 0) 3)))), (ra 4, .inl (cI, 6, .inl (cN ((fun _ _ => 0) 4)))), (ra 5, .inl (cI, 6, .inl (cN ((fun _ _ => 0) 5)))), (k2, .inl (cG, 6, .inr (.inr (.inr (.inr (rf6 rt)))))), (rt 0, .inl (cI, 6, .inl (cN ((fun _ _ => 0) 0)))), (rt 1, .inl (cI, 6, .inl (cN ((fun _ _ => 0) 1)))), (rt 2, .inl (cI, 6, .inl (cN ((fun _ _ => 0) 2)))), (rt 3, .inl (cI, 6, .inl (cN ((fun _ _ => 0) 3)))), (rt 4, .inl (cI, 6, .inl (cN ((fun _ _ => 0) 4)))), (rt 5, .inl (cI, 6, .inl (cN ((fun _ _ => 0) 5))))]) (va_A [(k0, .inr (2, [.null, .null]))] sz)) 14 84 (va_A [(k0, .inr (2, [.null, .null]))] sz) := by
  refine Met.ofW (cc := cX2_init) (maxL := 1) (ret := none) (by decide) rfl ?_
  intro p e s m args below meth c s₁ B hml hv
  obtain ⟨rfl, hsz, hP, hK, hD0, hN⟩ := hv
  have hts := atoms_spec (ws := wsX2_init) B.pre
  have hown : s.vm.findClass RX2 = some m.cls := findClass_of_methodNamed B.named
  have hlocks := B.notSynchronized
  have hin : meth.name = "<init>" := (name_of_methodNamed B.named B.method).1
  subst hsz
  have hD := hD0.self (sz := s.heap.size)
  have hA : ∀ q : Nat, s.heap.size ≤ q → va_A [(k0, .inr (2, [.null, .null]))] s.heap.size q := fun q h => Or.inr h
  have hl := lv_entry ([.ref k0]) (n := 1) (Nat.le_of_ble_eq_true rfl)
  rw [lg_entry_eq]
  generalize (lg_sl ([.ref k0]) ++ List.replicate (1 - (lg_sl ([.ref k0])).length) Slot.unset).toArray = ls at hl ⊢
  have hl : lv_has ls 1 [(0, .ref k0)] := hl
  have hx := B.exec
  have hb := B.bytes
  exact b_X2_init hx hb hml hown hin hts hK hA k0  hN hP hD va_S.rf hl (fun pcr H locs ls k1 k2 ra rt  hd hP hD hS => W.vret hx hb B.returns (fun t ht hW => ⟨⟨(), rfl, trivial, k1, k2, ra, rt, by rw [ht]; exact hP, hD⟩, hS.F ht⟩) hS.2.2 hd)
