section
variable {p : Program} {l : Launch} {e : Env} {s : State} {m : MethodId} {args : Array Value} {below : List Frame} {meth : Method} {c : Code} {Q : State → Prop} {A : Nat → Prop} {dC : Nat → ClassId} {dI : Nat → Nat → Nat} {cI : ClassId} {cZ : ClassId} {cG : ClassId} {b : Nat} {L : Nat} {xs : Nat → Int32} {c0 : Nat} {f0 : Nat} {t0 : Nat} {w0 : Nat} {v0 : Nat} {g0 : Nat} {k0 : Nat} {f1 : Nat} {f2 : Nat} {f3 : Nat} {s0 : Nat} {s1 : Nat} {t1 : Nat} {t2 : Nat} {t3 : Nat} {t4 : Nat} {t5 : Nat} {u0 : Nat} {u1 : Nat} {w1 : Nat} {w2 : Nat} {w3 : Nat} {v1 : Nat} {g1 : Nat} {k1 : Nat} {k2 : Nat} {a1 : Nat} {a2 : Nat} {a3 : Nat} {a4 : Nat} {a5 : Nat} {a6 : Nat} {ra : Nat → Nat} {rt : Nat → Nat}
set_option maxHeartbeats 8000000 in
set_option maxRecDepth 100000 in
theorem law_head (hSt : lawS p s m args c A dC dI cI cZ cG b L xs) (hend : ∀ (H : Heap) (locs : List Loc) (ls : Array Slot), va_S A s.heap H locs → W p l e room_1 s m args below meth c H locs 44 245 Q (F0 m 652 ls [])) : ∀ (n tn : Nat) (he mu : Nat → Bool) (lv pl es ba se : Nat → Nat) (pn : Nat → Option Nat) (pur : Nat → Nat) (pu : List Nat) (spr : Nat → Nat) (sp : List Nat) (ho li : Nat) (ld lo : Option Nat) (ls1 ck : Nat) (ta la : Nat → Nat → Nat) (kc : Nat → Nat) (ak : Nat → Bool) (lk vwr : Nat → Nat) (vw : List Nat) (rs : Nat) (gi th pA eA oA bA sA : Nat → Nat) (H : Heap) (locs : List Loc) (ls : Array Slot), 70 - tn < n → tn ≤ 70 → lawP tn he lv pl es ba se pn pur pu spr sp ho li ld lo ls1 ck ta la kc ak lk th pA eA oA bA sA → va_P (dC, dI) vwCl (lawV cI cZ cG c0 f0 t0 w0 v0 g0 k0 ck f1 f2 f3 s0 ld ho lo ls1 he lv mu s1 sp spr t1 t2 t3 t4 u0 li t5 ba se kc ak lk u1 pu pur w1 w2 w3 pl es pn v1 vw vwr g1 rs gi k1 k2 ra la rt ta a1 th a2 pA a3 eA a4 oA a5 bA a6 sA) H → va_D A (lawV cI cZ cG c0 f0 t0 w0 v0 g0 k0 ck f1 f2 f3 s0 ld ho lo ls1 he lv mu s1 sp spr t1 t2 t3 t4 u0 li t5 ba se kc ak lk u1 pu pur w1 w2 w3 pl es pn v1 vw vwr g1 rs gi k1 k2 ra la rt ta a1 th a2 pA a3 eA a4 oA a5 bA a6 sA) → va_S A s.heap H locs → lv_has ls 17 [(0, .ref b), (1, .ref c0), (2, .ref a1), (3, .ref a2), (4, .ref a3), (5, .ref a4), (6, .ref a5), (7, .ref a6), (8, .int (nI ck)), (9, .int (nI tn))] → W p l e room_1 s m args below meth c H locs 44 245 Q (F0 m 48 ls []) := by
  obtain ⟨hx, hb, hml, hown, hts, hK, hA, hXs, hbl, hbA, hL⟩ := id hSt
  intro n
  induction n with
  | zero =>
    intro tn he mu lv pl es ba se pn pur pu spr sp ho li ld lo ls1 ck ta la kc ak lk vwr vw rs gi th pA eA oA bA sA H locs ls hm
    exact absurd hm (Nat.not_lt_zero _)
  | succ n ih =>
    intro tn he mu lv pl es ba se pn pur pu spr sp ho li ld lo ls1 ck ta la kc ak lk vwr vw rs gi th pA eA oA bA sA H locs ls hm ht hJ hP hD hS hl
    refine lv_iload hx hb dL_law_48 (lv_at hl 9 rfl) ?_
    refine lv_bipush (v := nI 70) hx hb dL_law_50 (by decide) ?_
    refine q_ge (tgt := 652) hx hb (a := tn) (b := 70) (by omega) (by omega) dL_law_52 (by decide) (fun c52 => ?_) (fun c52 => ?_)
    · exact hend _ _ _ hS
    · refine law_turn hSt c52 hJ hP hD hS hl ?_
      intro he mu lv pl es ba se pn pur pu spr sp ho li ld lo ls1 ck ta la kc ak lk vwr vw rs gi th pA eA oA bA sA pb H locs ls hJ hpb hP hD hS hl
      refine law_tail hSt c52 hJ hpb hP hD hS hl ?_
      intro he mu lv pl es ba se pn pur pu spr sp ho li ld lo ls1 ck ta la kc ak lk vwr vw rs gi th pA eA oA bA sA H locs ls hJ hP hD hS hl
      exact ih (tn + 1) he mu lv pl es ba se pn pur pu spr sp ho li ld lo ls1 ck ta la kc ak lk vwr vw rs gi th pA eA oA bA sA H locs ls (by omega) (by omega) hJ hP hD hS hl
end
