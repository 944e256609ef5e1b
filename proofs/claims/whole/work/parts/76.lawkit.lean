-- which exception is caught by which row
theorem castable_moved {E N : String} {u U : State} (hvm : u.vm.Alike U.vm) (h : va_Nw (.castable E N) u) : va_Nw (.castable E N) U := by
  unfold va_Nw at h ⊢
  simp only [Cond.before, Cond.holds, Cond.value] at h ⊢
  rw [hvm.findClass, hvm.findClass]
  first | (simp only [hvm.assignable]; exact h) | exact h
def XL (U : State) : Prop := va_Nw (.castable eNS eNS) U ∧ va_Nw (.castable eIS eIS) U ∧ va_Nw (.castable eIA eIA) U ∧ va_Nw (.castable eIO eIO) U ∧ va_Nc eIS eNS U ∧ va_Nc eIA eNS U ∧ va_Nc eIO eNS U
theorem XL.moved {u U : State} (hvm : u.vm.Alike U.vm) (h : XL u) : XL U := by
  obtain ⟨a, b, c, d, e, f, g⟩ := h
  exact ⟨castable_moved hvm a, castable_moved hvm b, castable_moved hvm c, castable_moved hvm d, va_Nc.moved hvm e, va_Nc.moved hvm f, va_Nc.moved hvm g⟩
section QJ
variable {p : Program} {l : Launch} {e : Env} {R : Room} {s : State} {m : MethodId} {args : Array Value} {below : List Frame} {meth : Method} {c : Code} {H : Heap} {locs : List Loc} {cells slots : Nat} {Q : State → Prop}
variable {cc : ByteArray} {pc : Nat} {ls : Array Slot} {rest : List Value} {D : va_G} {cl : List vw_C} {A : Nat → Prop} {a : Nat} {tys : List (ClassId × FieldType)} {ws : va_W} {H0 : Heap}
theorem q_sJ (hx : p.tables.exec = Jvm.exec) (hb : c.code = cc) (hK : va_K D cl tys s) (hP : va_P D cl ws H) (hD : va_D A ws) (hS : va_S A H0 H locs) (q0 t0 : Nat) {cA : ClassId} {f : Nat → Int64} (ha : ws[q0]? = some (a, .inl (cA, 1, .inr (.inl f)))) (ht : tys[t0]? = some (cA, .long)) {x : Int64} (hdg : decode cc pc = .ok (.lastore, 1))
    (kk : ∀ (H1 : Heap) (locs1 : List Loc), va_P D cl (ws.set q0 (a, .inl (cA, 1, .inr (.inl (va_up f 0 x))))) H1 → va_D A (ws.set q0 (a, .inl (cA, 1, .inr (.inl (va_up f 0 x))))) → va_S A H0 H1 locs1 → W p l e R s m args below meth c H1 locs1 cells slots Q (F0 m (pc + 1) ls rest)) : W p l e R s m args below meth c H locs cells slots Q (F0 m pc ls (.long x :: .int (nI 0) :: .ref a :: rest)) :=
  va_last hx hb hK hP hD hS q0 t0 ha ht (by unfold vp_in; decide) hdg (fun H1 locs1 h1 h2 h3 => kk H1 locs1 h1 h2 h3)
theorem q_lJ (hx : p.tables.exec = Jvm.exec) (hb : c.code = cc) (hK : va_K D cl tys s) (hP : va_P D cl ws H) (q0 t0 : Nat) {cA : ClassId} {f : Nat → Int64} (ha : ws[q0]? = some (a, .inl (cA, 1, .inr (.inl f)))) (ht : tys[t0]? = some (cA, .long)) (hdg : decode cc pc = .ok (.laload, 1))
    (kk : W p l e R s m args below meth c H locs cells slots Q (F0 m (pc + 1) ls (.long (f 0) :: rest))) : W p l e R s m args below meth c H locs cells slots Q (F0 m pc ls (.int (nI 0) :: .ref a :: rest)) :=
  va_lald hx hb hK hP q0 t0 ha ht (by unfold vp_in; decide) hdg kk
end QJ
theorem nI_in6 {a b : Nat} (ha : a < 6) (hb : b < 6) (h : nI a = nI b) : a = b := by
  have h1 : (nI a).toNatClampNeg = a := nI_clamp (by omega)
  have h2 : (nI b).toNatClampNeg = b := nI_clamp (by omega)
  rw [h] at h1
  exact h1.symm.trans h2
theorem nI_in100 {a b : Nat} (ha : a ≤ 2000) (hb : b ≤ 2000) (h : nI a = nI b) : a = b := by
  have h1 : (nI a).toNatClampNeg = a := nI_clamp (by omega)
  have h2 : (nI b).toNatClampNeg = b := nI_clamp (by omega)
  rw [h] at h1
  exact h1.symm.trans h2
