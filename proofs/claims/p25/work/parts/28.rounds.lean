theorem wX3_shareInRounds_f23 : Cond.fieldLink RX3 23 "Confroom$Line" "count" "I" ∈ wsX3_shareInRounds := by decide +kernel
theorem wX3_shareInRounds_f28 : Cond.fieldLink RX3 28 "Confroom$Line" "row" "[I" ∈ wsX3_shareInRounds := by decide +kernel
theorem wX3_shareInRounds_X1_u : ∀ w ∈ u_ws RX1 TX1 2, w ∈ wsX3_shareInRounds := by decide +kernel
set_option maxHeartbeats 4000000 in
set_option maxRecDepth 100000 in
theorem b_X3_shareInRounds {p : Program} {l : Launch} {e : Env} {s : State} {m : MethodId} {args : Array Value} {below : List Frame} {meth : Method} {c : Code} {Q : State → Prop} {A : Nat → Prop} {dC : Nat → ClassId} {dI : Nat → Nat → Nat} {cI cZ cG : ClassId} (hx : p.tables.exec = Jvm.exec) (hb : c.code = cX3_shareInRounds) (hml : c.maxLocals = 6) (hown : s.vm.findClass RX3 = some m.cls) (hts : ∀ w ∈ wsX3_shareInRounds, w.before args s = true) (hK : va_K (dC, dI) vwCl [(cI, .int), (cZ, .boolean), (cG, .array .int)] s) (hA : ∀ q : Nat, s.heap.size ≤ q → A q) (g0 : Nat) (g1 : Nat) (rs : Nat) (t0 : Nat) (t1 : Nat) (t2 : Nat) (t3 : Nat) (t4 : Nat) (t5 : Nat) (u0 : Nat) (li : Nat) (v0 : Nat) (v1 : Nat) (gi : Nat → Nat) (ba : Nat → Nat) (se : Nat → Nat) (vwr : Nat → Nat) (vw : List Nat) (es1 : Nat) (hr : lrep vwr vw) (hba : ∀ k, ba k ≤ 100) (hse : ∀ k, se k ≤ 100) (hes : es1 ≤ 2000)  {H : Heap} {locs : List Loc} {ls : Array Slot} (hP : va_P (dC, dI) vwCl [(g0, .inr (3, [.ref g1, .int (nI rs)])), (g1, .inl (cI, 6, .inl (cN gi))), (t0, .inr (4, [.ref t1, .ref t2, .ref t3, .ref t4, .ref u0, .int (nI li), .ref t5])), (t1, .inl (cI, 6, .inl (cN ba))), (t2, .inl (cI, 6, .inl (cN se))), (v0, .inr (1, [.ref v1, .int (nI vw.length)])), (v1, .inl (cI, 6, .inl (cN vwr)))] H) (hD : va_D A [(g0, .inr (3, [.ref g1, .int (nI rs)])), (g1, .inl (cI, 6, .inl (cN gi))), (t0, .inr (4, [.ref t1, .ref t2, .ref t3, .ref t4, .ref u0, .int (nI li), .ref t5])), (t1, .inl (cI, 6, .inl (cN ba))), (t2, .inl (cI, 6, .inl (cN se))), (v0, .inr (1, [.ref v1, .int (nI vw.length)])), (v1, .inl (cI, 6, .inl (cN vwr)))]) (hS : va_S A s.heap H locs) (hl : lv_has ls 6 [(0, .ref g0), (1, .ref v0), (2, .ref t0), (3, .int (nI es1))]) (kret : ∀ (pcr : Nat) (H : Heap) (locs : List Loc) (ls : Array Slot) , decode cX3_shareInRounds pcr = .ok (.return_, 1) → va_P (dC, dI) vwCl [(g0, .inr (3, [.ref g1, .int (nI ((shF ba se vw (zeroF gi 6, es1)).2))])), (g1, .inl (cI, 6, .inl (cN ((shF ba se vw (zeroF gi 6, es1)).1)))), (t0, .inr (4, [.ref t1, .ref t2, .ref t3, .ref t4, .ref u0, .int (nI li), .ref t5])), (t1, .inl (cI, 6, .inl (cN ba))), (t2, .inl (cI, 6, .inl (cN se))), (v0, .inr (1, [.ref v1, .int (nI vw.length)])), (v1, .inl (cI, 6, .inl (cN vwr)))] H → va_D A [(g0, .inr (3, [.ref g1, .int (nI ((shF ba se vw (zeroF gi 6, es1)).2))])), (g1, .inl (cI, 6, .inl (cN ((shF ba se vw (zeroF gi 6, es1)).1)))), (t0, .inr (4, [.ref t1, .ref t2, .ref t3, .ref t4, .ref u0, .int (nI li), .ref t5])), (t1, .inl (cI, 6, .inl (cN ba))), (t2, .inl (cI, 6, .inl (cN se))), (v0, .inr (1, [.ref v1, .int (nI vw.length)])), (v1, .inl (cI, 6, .inl (cN vwr)))] → va_S A s.heap H locs → W p l e ({ frames := 1, cells := 0, slots := 0, locals := 22 } : Room) s m args below meth c H locs 0 0 Q (F0 m pcr ls [])) : W p l e ({ frames := 1, cells := 0, slots := 0, locals := 22 } : Room) s m args below meth c H locs 0 0 Q (F0 m 0 ls []) := by
  refine lv_aload_n hx hb dX3_shareInRounds_0 rfl (lv_at hl 0 rfl) ?_
  refine lv_iload_n hx hb dX3_shareInRounds_1 rfl (lv_at hl 3 rfl) ?_
  have hPc := hP.sub (ws' := [(g0, .inr (3, [.ref g1, .int (nI rs)])), (g1, .inl (cI, 6, .inl (cN gi)))]) [0, 1] rfl
  have hDc := hD.sub (ws' := [(g0, .inr (3, [.ref g1, .int (nI rs)])), (g1, .inl (cI, 6, .inl (cN gi)))]) [0, 1] (by decide) rfl
  have hFc := va_free (wc := [(g0, .inr (3, [.ref g1, .int (nI rs)])), (g1, .inl (cI, 6, .inl (cN gi)))]) hD hS hA [0, 1] rfl
  refine va_callv (va_runV (As := [.int (nI es1)]) (rest := []) ⟨hx, hb, hml, hown, hts⟩ (c_X3_startWith l dC dI cI cZ cG g0 g1 rs gi es1 H.size ) (cwV 1 hts gX3_shareInRounds_X3_startWith rfl rfl rfl (by decide +kernel) ⟨Nat.le_of_ble_eq_true rfl, Nat.le_of_ble_eq_true rfl⟩) ⟨fun a U g mk q => q_blind q, va_recv hK hPc (ci := 3) (q0 := 0) rfl rfl, fun U hU hW => ⟨rfl, by rw [hU], by rw [hU]; exact hPc, va_K.moved hW.alike hK, hDc.weaken (fun _ _ _ _ => trivial)⟩⟩ rfl rfl hl.1 rfl (lv_room (Nat.le_of_ble_eq_true rfl)) dX3_shareInRounds_2 ⟨by decide, by decide⟩) hS (fun q _ h => hFc q h) hFc (fun u t H1 locs ht hvm hw hB hz1 hk1 hS => ?_)
  obtain ⟨  hP1, hD1⟩ := hB
  rw [ht] at hP1
  obtain ⟨hP, hD⟩ := va_join (wr := [(t0, .inr (4, [.ref t1, .ref t2, .ref t3, .ref t4, .ref u0, .int (nI li), .ref t5])), (t1, .inl (cI, 6, .inl (cN ba))), (t2, .inl (cI, 6, .inl (cN se))), (v0, .inr (1, [.ref v1, .int (nI vw.length)])), (v1, .inl (cI, 6, .inl (cN vwr)))]) (w1 := [(g0, .inr (3, [.ref g1, .int (nI es1)])), (g1, .inl (cI, 6, .inl (cN (zeroF gi 6))))]) hP hD [0, 1] [2, 3, 4, 5, 6] rfl rfl (by decide) (by decide) hk1 hFc hP1 hD1
  generalize H1 = H at hP hS ⊢
  have hP := hP.sub (ws' := [(g0, .inr (3, [.ref g1, .int (nI es1)])), (g1, .inl (cI, 6, .inl (cN (zeroF gi 6)))), (t0, .inr (4, [.ref t1, .ref t2, .ref t3, .ref t4, .ref u0, .int (nI li), .ref t5])), (t1, .inl (cI, 6, .inl (cN ba))), (t2, .inl (cI, 6, .inl (cN se))), (v0, .inr (1, [.ref v1, .int (nI vw.length)])), (v1, .inl (cI, 6, .inl (cN vwr)))]) [5, 6, 0, 1, 2, 3, 4] rfl
  have hD := hD.sub (ws' := [(g0, .inr (3, [.ref g1, .int (nI es1)])), (g1, .inl (cI, 6, .inl (cN (zeroF gi 6)))), (t0, .inr (4, [.ref t1, .ref t2, .ref t3, .ref t4, .ref u0, .int (nI li), .ref t5])), (t1, .inl (cI, 6, .inl (cN ba))), (t2, .inl (cI, 6, .inl (cN se))), (v0, .inr (1, [.ref v1, .int (nI vw.length)])), (v1, .inl (cI, 6, .inl (cN vwr)))]) [5, 6, 0, 1, 2, 3, 4] (by decide) rfl
  refine lv_iconst (v := nI 0) hx hb dX3_shareInRounds_5 (by decide) ?_
  refine lv_istore (lv' := [(4, .int (nI 0)), (0, .ref g0), (1, .ref v0), (2, .ref t0), (3, .int (nI es1))]) hx hb dX3_shareInRounds_6 hl (by decide) rfl (fun ls hl => ?_)
  have L8 : ∀ (n : Nat) (i : Nat) (gi2 : Nat → Nat) (rs2 : Nat) (H : Heap) (locs : List Loc) (ls : Array Slot), (i ≤ vw.length) → ((gi2, rs2) = sh1 ba vw (zeroF gi 6, es1) i) → (∀ k, k < 6 → gi2 k ≤ 3) → (rs2 ≤ 2000) → (vw.length - i < n) → va_P (dC, dI) vwCl [(g0, .inr (3, [.ref g1, .int (nI rs2)])), (g1, .inl (cI, 6, .inl (cN gi2))), (t0, .inr (4, [.ref t1, .ref t2, .ref t3, .ref t4, .ref u0, .int (nI li), .ref t5])), (t1, .inl (cI, 6, .inl (cN ba))), (t2, .inl (cI, 6, .inl (cN se))), (v0, .inr (1, [.ref v1, .int (nI vw.length)])), (v1, .inl (cI, 6, .inl (cN vwr)))] H → va_D A [(g0, .inr (3, [.ref g1, .int (nI rs2)])), (g1, .inl (cI, 6, .inl (cN gi2))), (t0, .inr (4, [.ref t1, .ref t2, .ref t3, .ref t4, .ref u0, .int (nI li), .ref t5])), (t1, .inl (cI, 6, .inl (cN ba))), (t2, .inl (cI, 6, .inl (cN se))), (v0, .inr (1, [.ref v1, .int (nI vw.length)])), (v1, .inl (cI, 6, .inl (cN vwr)))] → va_S A s.heap H locs → lv_has ls 6 [(0, .ref g0), (1, .ref v0), (2, .ref t0), (3, .int (nI es1)), (4, .int (nI i))] → W p l e ({ frames := 1, cells := 0, slots := 0, locals := 22 } : Room) s m args below meth c H locs 0 0 Q (F0 m 8 ls []) := by
    intro n
    induction n with
    | zero =>
      intro i gi2 rs2 H locs ls hi hh hg2 hr2 hm
      exact absurd hm (Nat.not_lt_zero _)
    | succ n ih8 =>
      intro i gi2 rs2 H locs ls hi hh hg2 hr2 hm hP hD hS hl
      refine lv_iload hx hb dX3_shareInRounds_8 (lv_at hl 4 rfl) ?_
      refine lv_aload_n hx hb dX3_shareInRounds_10 rfl (lv_at hl 1 rfl) ?_
      have hlen := hr.len
      refine va_get (D := (dC, dI)) (ci := 1) (v := .int (nI vw.length)) (C := RX1) (T := TX1) (N := 2) hx hb hts (wX3_shareInRounds_X1_u) hown hK hP 5 rfl rfl 1 (by decide) (hts (.fieldLink RX3 23 "Confroom$Line" "count" "I") (wX3_shareInRounds_f23)) (fun _ h9 => h9) rfl dX3_shareInRounds_11 ?_
      refine q_ge (tgt := 36) hx hb (a := i) (b := vw.length) (by omega) (by omega) dX3_shareInRounds_14 (by decide) (fun c14 => ?_) (fun c14 => ?_)
      · refine lv_iconst (v := nI 0) hx hb dX3_shareInRounds_36 (by decide) ?_
        refine lv_istore (lv' := [(4, .int (nI 0)), (0, .ref g0), (1, .ref v0), (2, .ref t0), (3, .int (nI es1))]) hx hb dX3_shareInRounds_37 hl (by decide) rfl (fun ls hl => ?_)
        have L39 : ∀ (n : Nat) (i : Nat) (gi3 : Nat → Nat) (rs3 : Nat) (H : Heap) (locs : List Loc) (ls : Array Slot), (i ≤ vw.length) → ((gi3, rs3) = sh2 se vw (sh1 ba vw (zeroF gi 6, es1) vw.length) i) → (∀ k, k < 6 → gi3 k ≤ 3) → (rs3 ≤ 2000) → (vw.length - i < n) → va_P (dC, dI) vwCl [(g0, .inr (3, [.ref g1, .int (nI rs3)])), (g1, .inl (cI, 6, .inl (cN gi3))), (t0, .inr (4, [.ref t1, .ref t2, .ref t3, .ref t4, .ref u0, .int (nI li), .ref t5])), (t1, .inl (cI, 6, .inl (cN ba))), (t2, .inl (cI, 6, .inl (cN se))), (v0, .inr (1, [.ref v1, .int (nI vw.length)])), (v1, .inl (cI, 6, .inl (cN vwr)))] H → va_D A [(g0, .inr (3, [.ref g1, .int (nI rs3)])), (g1, .inl (cI, 6, .inl (cN gi3))), (t0, .inr (4, [.ref t1, .ref t2, .ref t3, .ref t4, .ref u0, .int (nI li), .ref t5])), (t1, .inl (cI, 6, .inl (cN ba))), (t2, .inl (cI, 6, .inl (cN se))), (v0, .inr (1, [.ref v1, .int (nI vw.length)])), (v1, .inl (cI, 6, .inl (cN vwr)))] → va_S A s.heap H locs → lv_has ls 6 [(0, .ref g0), (1, .ref v0), (2, .ref t0), (3, .int (nI es1)), (4, .int (nI i))] → W p l e ({ frames := 1, cells := 0, slots := 0, locals := 22 } : Room) s m args below meth c H locs 0 0 Q (F0 m 39 ls []) := by
          intro n
          induction n with
          | zero =>
            intro i gi3 rs3 H locs ls hi3 hh3 hg3 hr3 hm
            exact absurd hm (Nat.not_lt_zero _)
          | succ n ih39 =>
            intro i gi3 rs3 H locs ls hi3 hh3 hg3 hr3 hm hP hD hS hl
            refine lv_iload hx hb dX3_shareInRounds_39 (lv_at hl 4 rfl) ?_
            refine lv_aload_n hx hb dX3_shareInRounds_41 rfl (lv_at hl 1 rfl) ?_
            have hlen3 := hr.len
            refine va_get (D := (dC, dI)) (ci := 1) (v := .int (nI vw.length)) (C := RX1) (T := TX1) (N := 2) hx hb hts (wX3_shareInRounds_X1_u) hown hK hP 5 rfl rfl 1 (by decide) (hts (.fieldLink RX3 23 "Confroom$Line" "count" "I") (wX3_shareInRounds_f23)) (fun _ h9 => h9) rfl dX3_shareInRounds_42 ?_
            refine q_ge (tgt := 82) hx hb (a := i) (b := vw.length) (by omega) (by omega) dX3_shareInRounds_45 (by decide) (fun c45 => ?_) (fun c45 => ?_)
            · have ec2 : (shF ba se vw (zeroF gi 6, es1)).2 = rs3 := by
                unfold shF
                rw [show sh2 se vw (sh1 ba vw (zeroF gi 6, es1) vw.length) vw.length = (gi3, rs3) from by rw [hh3, show i = vw.length by omega]]
              have ec3 : (shF ba se vw (zeroF gi 6, es1)).1 = gi3 := by
                unfold shF
                rw [show sh2 se vw (sh1 ba vw (zeroF gi 6, es1) vw.length) vw.length = (gi3, rs3) from by rw [hh3, show i = vw.length by omega]]
              have hP : va_P (dC, dI) vwCl [(g0, .inr (3, [.ref g1, .int (nI ((shF ba se vw (zeroF gi 6, es1)).2))])), (g1, .inl (cI, 6, .inl (cN ((shF ba se vw (zeroF gi 6, es1)).1)))), (t0, .inr (4, [.ref t1, .ref t2, .ref t3, .ref t4, .ref u0, .int (nI li), .ref t5])), (t1, .inl (cI, 6, .inl (cN ba))), (t2, .inl (cI, 6, .inl (cN se))), (v0, .inr (1, [.ref v1, .int (nI vw.length)])), (v1, .inl (cI, 6, .inl (cN vwr)))] H := by
                rw [ec2, ec3]
                exact hP
              have hD : va_D A [(g0, .inr (3, [.ref g1, .int (nI ((shF ba se vw (zeroF gi 6, es1)).2))])), (g1, .inl (cI, 6, .inl (cN ((shF ba se vw (zeroF gi 6, es1)).1)))), (t0, .inr (4, [.ref t1, .ref t2, .ref t3, .ref t4, .ref u0, .int (nI li), .ref t5])), (t1, .inl (cI, 6, .inl (cN ba))), (t2, .inl (cI, 6, .inl (cN se))), (v0, .inr (1, [.ref v1, .int (nI vw.length)])), (v1, .inl (cI, 6, .inl (cN vwr)))] := by
                rw [ec2, ec3]
                exact hD
              refine kret 82 _ _ _   dX3_shareInRounds_82 hP hD hS
            · refine lv_iconst (v := nI 1) hx hb dX3_shareInRounds_48 (by decide) ?_
              refine lv_istore (lv' := [(5, .int (nI 1)), (0, .ref g0), (1, .ref v0), (2, .ref t0), (3, .int (nI es1)), (4, .int (nI i))]) hx hb dX3_shareInRounds_49 hl (by decide) rfl (fun ls hl => ?_)
              have L51 : ∀ (n : Nat) (y9 : Nat) (gi4 : Nat → Nat) (rs4 : Nat) (H : Heap) (locs : List Loc) (ls : Array Slot), (1 ≤ y9) → (y9 ≤ 3) → ((gi4, rs4) = itN se (gi3, rs3) (vw.getD i 0) (y9 - 1)) → (∀ k, k < 6 → gi4 k ≤ 3) → (rs4 ≤ 2000) → (3 - y9 < n) → va_P (dC, dI) vwCl [(g0, .inr (3, [.ref g1, .int (nI rs4)])), (g1, .inl (cI, 6, .inl (cN gi4))), (t0, .inr (4, [.ref t1, .ref t2, .ref t3, .ref t4, .ref u0, .int (nI li), .ref t5])), (t1, .inl (cI, 6, .inl (cN ba))), (t2, .inl (cI, 6, .inl (cN se))), (v0, .inr (1, [.ref v1, .int (nI vw.length)])), (v1, .inl (cI, 6, .inl (cN vwr)))] H → va_D A [(g0, .inr (3, [.ref g1, .int (nI rs4)])), (g1, .inl (cI, 6, .inl (cN gi4))), (t0, .inr (4, [.ref t1, .ref t2, .ref t3, .ref t4, .ref u0, .int (nI li), .ref t5])), (t1, .inl (cI, 6, .inl (cN ba))), (t2, .inl (cI, 6, .inl (cN se))), (v0, .inr (1, [.ref v1, .int (nI vw.length)])), (v1, .inl (cI, 6, .inl (cN vwr)))] → va_S A s.heap H locs → lv_has ls 6 [(0, .ref g0), (1, .ref v0), (2, .ref t0), (3, .int (nI es1)), (4, .int (nI i)), (5, .int (nI y9))] → W p l e ({ frames := 1, cells := 0, slots := 0, locals := 22 } : Room) s m args below meth c H locs 0 0 Q (F0 m 51 ls []) := by
                intro n
                induction n with
                | zero =>
                  intro y9 gi4 rs4 H locs ls hy1 hy3 hh4 hg4 hr4 hm
                  exact absurd hm (Nat.not_lt_zero _)
                | succ n ih51 =>
                  intro y9 gi4 rs4 H locs ls hy1 hy3 hh4 hg4 hr4 hm hP hD hS hl
                  refine lv_iload hx hb dX3_shareInRounds_51 (lv_at hl 5 rfl) ?_
                  refine lv_iconst (v := nI 3) hx hb dX3_shareInRounds_53 (by decide) ?_
                  refine q_ge (tgt := 76) hx hb (a := y9) (b := 3) (by omega) (by omega) dX3_shareInRounds_54 (by decide) (fun c54 => ?_) (fun c54 => ?_)
                  · refine lv_iinc (v := nI (i + 1)) (lv' := [(4, .int (nI (i + 1))), (0, .ref g0), (1, .ref v0), (2, .ref t0), (3, .int (nI es1)), (5, .int (nI y9))]) hx hb dX3_shareInRounds_76 hl (k := 4) rfl (q_inc i 1) (by decide) rfl (fun ls hl => ?_)
                    refine lv_goto (tgt := 39) hx hb dX3_shareInRounds_79 (by decide) ?_
                    refine ih39 (i + 1) gi4 rs4 _ _ _ ?_ ?_ ?_ ?_ (by omega) hP hD hS (lv_sub hl [1, 2, 3, 4, 0] rfl)
                    · omega
                    · rw [show y9 = 3 by omega] at hh4
                      simp only [sh2]
                      rw [← hh3]
                      exact hh4
                    · exact hg4
                    · exact hr4
                  · refine lv_aload_n hx hb dX3_shareInRounds_57 rfl (lv_at hl 0 rfl) ?_
                    refine lv_aload_n hx hb dX3_shareInRounds_58 rfl (lv_at hl 1 rfl) ?_
                    refine va_get (D := (dC, dI)) (ci := 1) (v := .ref v1) (C := RX1) (T := TX1) (N := 2) hx hb hts (wX3_shareInRounds_X1_u) hown hK hP 5 rfl rfl 0 (by decide) (hts (.fieldLink RX3 28 "Confroom$Line" "row" "[I") (wX3_shareInRounds_f28)) (fun _ h9 => h9) rfl dX3_shareInRounds_59 ?_
                    refine lv_iload hx hb dX3_shareInRounds_62 (lv_at hl 4 rfl) ?_
                    refine q_iN hx hb hK hP 6 0 rfl rfl (k := i) (by omega) (by decide) dX3_shareInRounds_64 ?_
                    have hrl3 := hr.lt c45
                    refine lv_aload_n hx hb dX3_shareInRounds_65 rfl (lv_at hl 2 rfl) ?_
                    have hPc := hP.sub (ws' := [(g0, .inr (3, [.ref g1, .int (nI rs4)])), (g1, .inl (cI, 6, .inl (cN gi4))), (t0, .inr (4, [.ref t1, .ref t2, .ref t3, .ref t4, .ref u0, .int (nI li), .ref t5])), (t2, .inl (cI, 6, .inl (cN se)))]) [0, 1, 2, 4] rfl
                    have hDc := hD.sub (ws' := [(g0, .inr (3, [.ref g1, .int (nI rs4)])), (g1, .inl (cI, 6, .inl (cN gi4))), (t0, .inr (4, [.ref t1, .ref t2, .ref t3, .ref t4, .ref u0, .int (nI li), .ref t5])), (t2, .inl (cI, 6, .inl (cN se)))]) [0, 1, 2, 4] (by decide) rfl
                    have hFc := va_free (wc := [(g0, .inr (3, [.ref g1, .int (nI rs4)])), (g1, .inl (cI, 6, .inl (cN gi4))), (t0, .inr (4, [.ref t1, .ref t2, .ref t3, .ref t4, .ref u0, .int (nI li), .ref t5])), (t2, .inl (cI, 6, .inl (cN se)))]) hD hS hA [0, 1, 2, 4] rfl
                    have hq4_0 : (vwr i) < 6 := by
                      first | assumption | omega
                    have hq4_1 : ∀ k, k < 6 → gi4 k ≤ 3 := by
                      first | assumption | omega
                    have hq4_2 : ∀ k, se k ≤ 100 := by
                      first | assumption | omega
                    have hq4_3 : rs4 ≤ 2000 := by
                      first | assumption | omega
                    refine va_calli (va_runV (As := [.int (nI (vwr i)), .ref t0]) (rest := []) ⟨hx, hb, hml, hown, hts⟩ (c_X3_giveNextLayer l dC dI cI cZ cG g0 g1 rs4 t0 t1 t2 t3 t4 t5 u0 li gi4 se (vwr i) H.size hq4_0 hq4_1 hq4_2 hq4_3) (cwV 2 hts gX3_shareInRounds_X3_giveNextLayer rfl rfl rfl (by decide +kernel) ⟨Nat.le_of_ble_eq_true rfl, Nat.le_of_ble_eq_true rfl⟩) ⟨fun a U g mk q => q_blind q, va_recv hK hPc (ci := 3) (q0 := 0) rfl rfl, fun U hU hW => ⟨rfl, by rw [hU], by rw [hU]; exact hPc, va_K.moved hW.alike hK, hDc.weaken (fun _ _ _ _ => trivial)⟩⟩ rfl rfl hl.1 rfl (lv_room (Nat.le_of_ble_eq_true rfl)) dX3_shareInRounds_66 ⟨by decide, by decide⟩) hS (fun q _ h => hFc q h) hFc (fun rv u t H1 locs ht hvm hw hB hz1 hk1 hS => ?_)
                    obtain ⟨  hr4, hP1, hD1⟩ := hB
                    rw [ht] at hP1
                    subst hw
                    subst hr4
                    obtain ⟨hP, hD⟩ := va_join (wr := [(t1, .inl (cI, 6, .inl (cN ba))), (v0, .inr (1, [.ref v1, .int (nI vw.length)])), (v1, .inl (cI, 6, .inl (cN vwr)))]) (w1 := [(g0, .inr (3, [.ref g1, .int (nI (r2F se gi4 rs4 (vwr i)))])), (g1, .inl (cI, 6, .inl (cN (g2F se gi4 rs4 (vwr i))))), (t0, .inr (4, [.ref t1, .ref t2, .ref t3, .ref t4, .ref u0, .int (nI li), .ref t5])), (t2, .inl (cI, 6, .inl (cN se)))]) hP hD [0, 1, 2, 4] [3, 5, 6] rfl rfl (by decide) (by decide) hk1 hFc hP1 hD1
                    generalize H1 = H at hP hS ⊢
                    have hP := hP.sub (ws' := [(g0, .inr (3, [.ref g1, .int (nI (r2F se gi4 rs4 (vwr i)))])), (g1, .inl (cI, 6, .inl (cN (g2F se gi4 rs4 (vwr i))))), (t0, .inr (4, [.ref t1, .ref t2, .ref t3, .ref t4, .ref u0, .int (nI li), .ref t5])), (t1, .inl (cI, 6, .inl (cN ba))), (t2, .inl (cI, 6, .inl (cN se))), (v0, .inr (1, [.ref v1, .int (nI vw.length)])), (v1, .inl (cI, 6, .inl (cN vwr)))]) [3, 4, 5, 0, 6, 1, 2] rfl
                    have hD := hD.sub (ws' := [(g0, .inr (3, [.ref g1, .int (nI (r2F se gi4 rs4 (vwr i)))])), (g1, .inl (cI, 6, .inl (cN (g2F se gi4 rs4 (vwr i))))), (t0, .inr (4, [.ref t1, .ref t2, .ref t3, .ref t4, .ref u0, .int (nI li), .ref t5])), (t1, .inl (cI, 6, .inl (cN ba))), (t2, .inl (cI, 6, .inl (cN se))), (v0, .inr (1, [.ref v1, .int (nI vw.length)])), (v1, .inl (cI, 6, .inl (cN vwr)))]) [3, 4, 5, 0, 6, 1, 2] (by decide) rfl
                    refine lv_pop hx hb dX3_shareInRounds_69 rfl ?_
                    refine lv_iinc (v := nI (y9 + 1)) (lv' := [(5, .int (nI (y9 + 1))), (0, .ref g0), (1, .ref v0), (2, .ref t0), (3, .int (nI es1)), (4, .int (nI i))]) hx hb dX3_shareInRounds_70 hl (k := 5) rfl (q_inc y9 1) (by decide) rfl (fun ls hl => ?_)
                    refine lv_goto (tgt := 51) hx hb dX3_shareInRounds_73 (by decide) ?_
                    refine ih51 (y9 + 1) (g2F se gi4 rs4 (vwr i)) (r2F se gi4 rs4 (vwr i)) _ _ _ ?_ ?_ ?_ ?_ ?_ (by omega) hP hD hS (lv_sub hl [1, 2, 3, 4, 5, 0] rfl)
                    · omega
                    · omega
                    · rw [show y9 + 1 - 1 = (y9 - 1) + 1 by omega]
                      show _ = st2 se (itN se (gi3, rs3) (vw.getD i 0) (y9 - 1)) (vw.getD i 0)
                      rw [← hh4, ← hr.2 i c45]
                      rfl
                    · exact g2_le hg4 _
                    · exact Nat.le_trans (r2_le _ _ _ _) hr4
              refine L51 _ 1 gi3 rs3 _ _ _ ?_ ?_ ?_ ?_ ?_ (Nat.lt_succ_self _) hP hD hS (lv_sub hl [1, 2, 3, 4, 5, 0] rfl)
              · omega
              · omega
              · rfl
              · exact hg3
              · exact hr3
        refine L39 _ 0 gi2 rs2 _ _ _ ?_ ?_ ?_ ?_ (Nat.lt_succ_self _) hP hD hS (lv_sub hl [1, 2, 3, 4, 0] rfl)
        · omega
        · rw [hh, show i = vw.length by omega]
          rfl
        · exact hg2
        · exact hr2
      · refine lv_aload_n hx hb dX3_shareInRounds_17 rfl (lv_at hl 0 rfl) ?_
        refine lv_aload_n hx hb dX3_shareInRounds_18 rfl (lv_at hl 1 rfl) ?_
        refine va_get (D := (dC, dI)) (ci := 1) (v := .ref v1) (C := RX1) (T := TX1) (N := 2) hx hb hts (wX3_shareInRounds_X1_u) hown hK hP 5 rfl rfl 0 (by decide) (hts (.fieldLink RX3 28 "Confroom$Line" "row" "[I") (wX3_shareInRounds_f28)) (fun _ h9 => h9) rfl dX3_shareInRounds_19 ?_
        refine lv_iload hx hb dX3_shareInRounds_22 (lv_at hl 4 rfl) ?_
        refine q_iN hx hb hK hP 6 0 rfl rfl (k := i) (by omega) (by decide) dX3_shareInRounds_24 ?_
        have hrl := hr.lt c14
        refine lv_aload_n hx hb dX3_shareInRounds_25 rfl (lv_at hl 2 rfl) ?_
        have hPc := hP.sub (ws' := [(g0, .inr (3, [.ref g1, .int (nI rs2)])), (g1, .inl (cI, 6, .inl (cN gi2))), (t0, .inr (4, [.ref t1, .ref t2, .ref t3, .ref t4, .ref u0, .int (nI li), .ref t5])), (t1, .inl (cI, 6, .inl (cN ba)))]) [0, 1, 2, 3] rfl
        have hDc := hD.sub (ws' := [(g0, .inr (3, [.ref g1, .int (nI rs2)])), (g1, .inl (cI, 6, .inl (cN gi2))), (t0, .inr (4, [.ref t1, .ref t2, .ref t3, .ref t4, .ref u0, .int (nI li), .ref t5])), (t1, .inl (cI, 6, .inl (cN ba)))]) [0, 1, 2, 3] (by decide) rfl
        have hFc := va_free (wc := [(g0, .inr (3, [.ref g1, .int (nI rs2)])), (g1, .inl (cI, 6, .inl (cN gi2))), (t0, .inr (4, [.ref t1, .ref t2, .ref t3, .ref t4, .ref u0, .int (nI li), .ref t5])), (t1, .inl (cI, 6, .inl (cN ba)))]) hD hS hA [0, 1, 2, 3] rfl
        have hq5_0 : (vwr i) < 6 := by
          first | assumption | omega
        have hq5_1 : ∀ k, k < 6 → gi2 k ≤ 3 := by
          first | assumption | omega
        have hq5_2 : ∀ k, ba k ≤ 100 := by
          first | assumption | omega
        have hq5_3 : rs2 ≤ 2000 := by
          first | assumption | omega
        refine va_calli (va_runV (As := [.int (nI (vwr i)), .ref t0]) (rest := []) ⟨hx, hb, hml, hown, hts⟩ (c_X3_giveFirstLayer l dC dI cI cZ cG g0 g1 rs2 t0 t1 t2 t3 t4 t5 u0 li gi2 ba (vwr i) H.size hq5_0 hq5_1 hq5_2 hq5_3) (cwV 2 hts gX3_shareInRounds_X3_giveFirstLayer rfl rfl rfl (by decide +kernel) ⟨Nat.le_of_ble_eq_true rfl, Nat.le_of_ble_eq_true rfl⟩) ⟨fun a U g mk q => q_blind q, va_recv hK hPc (ci := 3) (q0 := 0) rfl rfl, fun U hU hW => ⟨rfl, by rw [hU], by rw [hU]; exact hPc, va_K.moved hW.alike hK, hDc.weaken (fun _ _ _ _ => trivial)⟩⟩ rfl rfl hl.1 rfl (lv_room (Nat.le_of_ble_eq_true rfl)) dX3_shareInRounds_26 ⟨by decide, by decide⟩) hS (fun q _ h => hFc q h) hFc (fun rv u t H1 locs ht hvm hw hB hz1 hk1 hS => ?_)
        obtain ⟨  hr5, hP1, hD1⟩ := hB
        rw [ht] at hP1
        subst hw
        subst hr5
        obtain ⟨hP, hD⟩ := va_join (wr := [(t2, .inl (cI, 6, .inl (cN se))), (v0, .inr (1, [.ref v1, .int (nI vw.length)])), (v1, .inl (cI, 6, .inl (cN vwr)))]) (w1 := [(g0, .inr (3, [.ref g1, .int (nI (r1F ba gi2 rs2 (vwr i)))])), (g1, .inl (cI, 6, .inl (cN (g1F ba gi2 rs2 (vwr i))))), (t0, .inr (4, [.ref t1, .ref t2, .ref t3, .ref t4, .ref u0, .int (nI li), .ref t5])), (t1, .inl (cI, 6, .inl (cN ba)))]) hP hD [0, 1, 2, 3] [4, 5, 6] rfl rfl (by decide) (by decide) hk1 hFc hP1 hD1
        generalize H1 = H at hP hS ⊢
        have hP := hP.sub (ws' := [(g0, .inr (3, [.ref g1, .int (nI (r1F ba gi2 rs2 (vwr i)))])), (g1, .inl (cI, 6, .inl (cN (g1F ba gi2 rs2 (vwr i))))), (t0, .inr (4, [.ref t1, .ref t2, .ref t3, .ref t4, .ref u0, .int (nI li), .ref t5])), (t1, .inl (cI, 6, .inl (cN ba))), (t2, .inl (cI, 6, .inl (cN se))), (v0, .inr (1, [.ref v1, .int (nI vw.length)])), (v1, .inl (cI, 6, .inl (cN vwr)))]) [3, 4, 5, 6, 0, 1, 2] rfl
        have hD := hD.sub (ws' := [(g0, .inr (3, [.ref g1, .int (nI (r1F ba gi2 rs2 (vwr i)))])), (g1, .inl (cI, 6, .inl (cN (g1F ba gi2 rs2 (vwr i))))), (t0, .inr (4, [.ref t1, .ref t2, .ref t3, .ref t4, .ref u0, .int (nI li), .ref t5])), (t1, .inl (cI, 6, .inl (cN ba))), (t2, .inl (cI, 6, .inl (cN se))), (v0, .inr (1, [.ref v1, .int (nI vw.length)])), (v1, .inl (cI, 6, .inl (cN vwr)))]) [3, 4, 5, 6, 0, 1, 2] (by decide) rfl
        refine lv_pop hx hb dX3_shareInRounds_29 rfl ?_
        refine lv_iinc (v := nI (i + 1)) (lv' := [(4, .int (nI (i + 1))), (0, .ref g0), (1, .ref v0), (2, .ref t0), (3, .int (nI es1))]) hx hb dX3_shareInRounds_30 hl (k := 4) rfl (q_inc i 1) (by decide) rfl (fun ls hl => ?_)
        refine lv_goto (tgt := 8) hx hb dX3_shareInRounds_33 (by decide) ?_
        refine ih8 (i + 1) (g1F ba gi2 rs2 (vwr i)) (r1F ba gi2 rs2 (vwr i)) _ _ _ ?_ ?_ ?_ ?_ (by omega) hP hD hS (lv_sub hl [1, 2, 3, 4, 0] rfl)
        · omega
        · simp only [sh1]
          rw [← hh, ← hr.2 i c14]
          rfl
        · exact g1_le hg2 _
        · exact Nat.le_trans (r1_le _ _ _ _) hr2
  refine L8 _ 0 (zeroF gi 6) es1 _ _ _ ?_ ?_ ?_ ?_ (Nat.lt_succ_self _) hP hD hS (lv_sub hl [1, 2, 3, 4, 0] rfl)
  · omega
  · rfl
  · exact zeroF_3 gi
  · exact hes

set_option maxHeartbeats 4000000 in
set_option maxRecDepth 100000 in
theorem c_X3_shareInRounds (l : Launch) (dC : Nat → ClassId) (dI : Nat → Nat → Nat) (cI cZ cG : ClassId) (g0 : Nat) (g1 : Nat) (rs : Nat) (t0 : Nat) (t1 : Nat) (t2 : Nat) (t3 : Nat) (t4 : Nat) (t5 : Nat) (u0 : Nat) (li : Nat) (v0 : Nat) (v1 : Nat) (gi : Nat → Nat) (ba : Nat → Nat) (se : Nat → Nat) (vwr : Nat → Nat) (vw : List Nat) (es1 : Nat) (sz : Nat) (hr : lrep vwr vw) (hba : ∀ k, ba k ≤ 100) (hse : ∀ k, se k ≤ 100) (hes : es1 ≤ 2000) : Met l yX3_shareInRounds wsX3_shareInRounds ({ frames := 1, cells := 0, slots := 0, locals := 22 } : Room) (va_Pc [.ref g0, .ref v0, .ref t0, .int (nI es1)] (fun U => U.heap.size = sz ∧ va_P (dC, dI) vwCl [(g0, .inr (3, [.ref g1, .int (nI rs)])), (g1, .inl (cI, 6, .inl (cN gi))), (t0, .inr (4, [.ref t1, .ref t2, .ref t3, .ref t4, .ref u0, .int (nI li), .ref t5])), (t1, .inl (cI, 6, .inl (cN ba))), (t2, .inl (cI, 6, .inl (cN se))), (v0, .inr (1, [.ref v1, .int (nI vw.length)])), (v1, .inl (cI, 6, .inl (cN vwr)))] U.heap ∧ va_K (dC, dI) vwCl [(cI, .int), (cZ, .boolean), (cG, .array .int)] U ∧ va_D (fun _ => True) [(g0, .inr (3, [.ref g1, .int (nI rs)])), (g1, .inl (cI, 6, .inl (cN gi))), (t0, .inr (4, [.ref t1, .ref t2, .ref t3, .ref t4, .ref u0, .int (nI li), .ref t5])), (t1, .inl (cI, 6, .inl (cN ba))), (t2, .inl (cI, 6, .inl (cN se))), (v0, .inr (1, [.ref v1, .int (nI vw.length)])), (v1, .inl (cI, 6, .inl (cN vwr)))])) (va_Qv (fun (_ : Unit) => True) (fun (_ : Unit) t => va_P (dC, dI) vwCl [(g0, .inr (3, [.ref g1, .int (nI ((shF ba se vw (zeroF gi 6, es1)).2))])), (g1, .inl (cI, 6, .inl (cN ((shF ba se vw (zeroF gi 6, es1)).1)))), (t0, .inr (4, [.ref t1, .ref t2, .ref t3, .ref t4, .ref u0, .int (nI li), .ref t5])), (t1, .inl (cI, 6, .inl (cN ba))), (t2, .inl (cI, 6, .inl (cN se))), (v0, .inr (1, [.ref v1, .int (nI vw.length)])), (v1, .inl (cI, 6, .inl (cN vwr)))] t.heap ∧ va_D (va_A [(g0, .inr (3, [.ref g1, .int (nI rs)])), (g1, .inl (cI, 6, .inl (cN gi))), (t0, .inr (4, [.ref t1, .ref t2, .ref t3, .ref t4, .ref u0, .int (nI li), .ref t5])), (t1, .inl (cI, 6, .inl (cN ba))), (t2, .inl (cI, 6, .inl (cN se))), (v0, .inr (1, [.ref v1, .int (nI vw.length)])), (v1, .inl (cI, 6, .inl (cN vwr)))] sz) [(g0, .inr (3, [.ref g1, .int (nI ((shF ba se vw (zeroF gi 6, es1)).2))])), (g1, .inl (cI, 6, .inl (cN ((shF ba se vw (zeroF gi 6, es1)).1)))), (t0, .inr (4, [.ref t1, .ref t2, .ref t3, .ref t4, .ref u0, .int (nI li), .ref t5])), (t1, .inl (cI, 6, .inl (cN ba))), (t2, .inl (cI, 6, .inl (cN se))), (v0, .inr (1, [.ref v1, .int (nI vw.length)])), (v1, .inl (cI, 6, .inl (cN vwr)))]) (va_A [(g0, .inr (3, [.ref g1, .int (nI rs)])), (g1, .inl (cI, 6, .inl (cN gi))), (t0, .inr (4, [.ref t1, .ref t2, .ref t3, .ref t4, .ref u0, .int (nI li), .ref t5])), (t1, .inl (cI, 6, .inl (cN ba))), (t2, .inl (cI, 6, .inl (cN se))), (v0, .inr (1, [.ref v1, .int (nI vw.length)])), (v1, .inl (cI, 6, .inl (cN vwr)))] sz)) 0 0 (va_A [(g0, .inr (3, [.ref g1, .int (nI rs)])), (g1, .inl (cI, 6, .inl (cN gi))), (t0, .inr (4, [.ref t1, .ref t2, .ref t3, .ref t4, .ref u0, .int (nI li), .ref t5])), (t1, .inl (cI, 6, .inl (cN ba))), (t2, .inl (cI, 6, .inl (cN se))), (v0, .inr (1, [.ref v1, .int (nI vw.length)])), (v1, .inl (cI, 6, .inl (cN vwr)))] sz) := by
  refine Met.ofW (cc := cX3_shareInRounds) (maxL := 6) (ret := none) (by decide) rfl ?_
  intro p e s m args below meth c s₁ B hml hv
  obtain ⟨rfl, hsz, hP, hK, hD0⟩ := hv
  have hts := atoms_spec (ws := wsX3_shareInRounds) B.pre
  have hown : s.vm.findClass RX3 = some m.cls := findClass_of_methodNamed B.named
  have hlocks := B.notSynchronized
  subst hsz
  have hD := hD0.self (sz := s.heap.size)
  have hA : ∀ q : Nat, s.heap.size ≤ q → va_A [(g0, .inr (3, [.ref g1, .int (nI rs)])), (g1, .inl (cI, 6, .inl (cN gi))), (t0, .inr (4, [.ref t1, .ref t2, .ref t3, .ref t4, .ref u0, .int (nI li), .ref t5])), (t1, .inl (cI, 6, .inl (cN ba))), (t2, .inl (cI, 6, .inl (cN se))), (v0, .inr (1, [.ref v1, .int (nI vw.length)])), (v1, .inl (cI, 6, .inl (cN vwr)))] s.heap.size q := fun q h => Or.inr h
  have hl := lv_entry ([.ref g0, .ref v0, .ref t0, .int (nI es1)]) (n := 6) (Nat.le_of_ble_eq_true rfl)
  rw [lg_entry_eq]
  generalize (lg_sl ([.ref g0, .ref v0, .ref t0, .int (nI es1)]) ++ List.replicate (6 - (lg_sl ([.ref g0, .ref v0, .ref t0, .int (nI es1)])).length) Slot.unset).toArray = ls at hl ⊢
  have hl : lv_has ls 6 [(0, .ref g0), (1, .ref v0), (2, .ref t0), (3, .int (nI es1))] := hl
  have hx := B.exec
  have hb := B.bytes
  exact b_X3_shareInRounds hx hb hml hown hts hK hA g0 g1 rs t0 t1 t2 t3 t4 t5 u0 li v0 v1 gi ba se vwr vw es1 hr hba hse hes  hP hD va_S.rf hl (fun pcr H locs ls   hd hP hD hS => W.vret hx hb B.returns (fun t ht hW => ⟨⟨(), rfl, trivial, by rw [ht]; exact hP, hD⟩, hS.F ht⟩) hS.2.2 hd)
set_option maxHeartbeats 4000000 in
set_option maxRecDepth 100000 in
theorem b_X3_shareBySteps {p : Program} {l : Launch} {e : Env} {s : State} {m : MethodId} {args : Array Value} {below : List Frame} {meth : Method} {c : Code} {Q : State → Prop} {A : Nat → Prop} {dC : Nat → ClassId} {dI : Nat → Nat → Nat} {cI cZ cG : ClassId} (hx : p.tables.exec = Jvm.exec) (hb : c.code = cX3_shareBySteps) (hml : c.maxLocals = 6) (hown : s.vm.findClass RX3 = some m.cls) (hts : ∀ w ∈ wsX3_shareBySteps, w.before args s = true) (hK : va_K (dC, dI) vwCl [(cI, .int), (cZ, .boolean), (cG, .array .int)] s) (hA : ∀ q : Nat, s.heap.size ≤ q → A q) (g0 : Nat) (g1 : Nat) (rs : Nat) (t0 : Nat) (t1 : Nat) (t2 : Nat) (t3 : Nat) (t4 : Nat) (t5 : Nat) (u0 : Nat) (li : Nat) (v0 : Nat) (v1 : Nat) (gi : Nat → Nat) (ba : Nat → Nat) (se : Nat → Nat) (vwr : Nat → Nat) (vw : List Nat) (es1 : Nat) (hr : lrep vwr vw) (hba : ∀ k, ba k ≤ 100) (hse : ∀ k, se k ≤ 100) (hes : es1 ≤ 2000)  {H : Heap} {locs : List Loc} {ls : Array Slot} (hP : va_P (dC, dI) vwCl [(g0, .inr (3, [.ref g1, .int (nI rs)])), (g1, .inl (cI, 6, .inl (cN gi))), (t0, .inr (4, [.ref t1, .ref t2, .ref t3, .ref t4, .ref u0, .int (nI li), .ref t5])), (t1, .inl (cI, 6, .inl (cN ba))), (t2, .inl (cI, 6, .inl (cN se))), (v0, .inr (1, [.ref v1, .int (nI vw.length)])), (v1, .inl (cI, 6, .inl (cN vwr)))] H) (hD : va_D A [(g0, .inr (3, [.ref g1, .int (nI rs)])), (g1, .inl (cI, 6, .inl (cN gi))), (t0, .inr (4, [.ref t1, .ref t2, .ref t3, .ref t4, .ref u0, .int (nI li), .ref t5])), (t1, .inl (cI, 6, .inl (cN ba))), (t2, .inl (cI, 6, .inl (cN se))), (v0, .inr (1, [.ref v1, .int (nI vw.length)])), (v1, .inl (cI, 6, .inl (cN vwr)))]) (hS : va_S A s.heap H locs) (hl : lv_has ls 6 [(0, .ref g0), (1, .ref v0), (2, .ref t0), (3, .int (nI es1))]) (kret : ∀ (pcr : Nat) (H : Heap) (locs : List Loc) (ls : Array Slot) (gi9 : Nat → Nat) (rs9 : Nat), (∃ kk, (gi9, rs9) = itS ba se vw (zeroF gi 6, es1) kk ∧ (18 ≤ kk ∨ fixS ba se vw (gi9, rs9))) → decode cX3_shareBySteps pcr = .ok (.return_, 1) → va_P (dC, dI) vwCl [(g0, .inr (3, [.ref g1, .int (nI rs9)])), (g1, .inl (cI, 6, .inl (cN gi9))), (t0, .inr (4, [.ref t1, .ref t2, .ref t3, .ref t4, .ref u0, .int (nI li), .ref t5])), (t1, .inl (cI, 6, .inl (cN ba))), (t2, .inl (cI, 6, .inl (cN se))), (v0, .inr (1, [.ref v1, .int (nI vw.length)])), (v1, .inl (cI, 6, .inl (cN vwr)))] H → va_D A [(g0, .inr (3, [.ref g1, .int (nI rs9)])), (g1, .inl (cI, 6, .inl (cN gi9))), (t0, .inr (4, [.ref t1, .ref t2, .ref t3, .ref t4, .ref u0, .int (nI li), .ref t5])), (t1, .inl (cI, 6, .inl (cN ba))), (t2, .inl (cI, 6, .inl (cN se))), (v0, .inr (1, [.ref v1, .int (nI vw.length)])), (v1, .inl (cI, 6, .inl (cN vwr)))] → va_S A s.heap H locs → W p l e ({ frames := 2, cells := 0, slots := 0, locals := 45 } : Room) s m args below meth c H locs 0 0 Q (F0 m pcr ls [])) : W p l e ({ frames := 2, cells := 0, slots := 0, locals := 45 } : Room) s m args below meth c H locs 0 0 Q (F0 m 0 ls []) := by
  refine lv_aload_n hx hb dX3_shareBySteps_0 rfl (lv_at hl 0 rfl) ?_
  refine lv_iload_n hx hb dX3_shareBySteps_1 rfl (lv_at hl 3 rfl) ?_
  have hPc := hP.sub (ws' := [(g0, .inr (3, [.ref g1, .int (nI rs)])), (g1, .inl (cI, 6, .inl (cN gi)))]) [0, 1] rfl
  have hDc := hD.sub (ws' := [(g0, .inr (3, [.ref g1, .int (nI rs)])), (g1, .inl (cI, 6, .inl (cN gi)))]) [0, 1] (by decide) rfl
  have hFc := va_free (wc := [(g0, .inr (3, [.ref g1, .int (nI rs)])), (g1, .inl (cI, 6, .inl (cN gi)))]) hD hS hA [0, 1] rfl
  refine va_callv (va_runV (As := [.int (nI es1)]) (rest := []) ⟨hx, hb, hml, hown, hts⟩ (c_X3_startWith l dC dI cI cZ cG g0 g1 rs gi es1 H.size ) (cwV 1 hts gX3_shareBySteps_X3_startWith rfl rfl rfl (by decide +kernel) ⟨Nat.le_of_ble_eq_true rfl, Nat.le_of_ble_eq_true rfl⟩) ⟨fun a U g mk q => q_blind q, va_recv hK hPc (ci := 3) (q0 := 0) rfl rfl, fun U hU hW => ⟨rfl, by rw [hU], by rw [hU]; exact hPc, va_K.moved hW.alike hK, hDc.weaken (fun _ _ _ _ => trivial)⟩⟩ rfl rfl hl.1 rfl (lv_room (Nat.le_of_ble_eq_true rfl)) dX3_shareBySteps_2 ⟨by decide, by decide⟩) hS (fun q _ h => hFc q h) hFc (fun u t H1 locs ht hvm hw hB hz1 hk1 hS => ?_)
  obtain ⟨  hP1, hD1⟩ := hB
  rw [ht] at hP1
  obtain ⟨hP, hD⟩ := va_join (wr := [(t0, .inr (4, [.ref t1, .ref t2, .ref t3, .ref t4, .ref u0, .int (nI li), .ref t5])), (t1, .inl (cI, 6, .inl (cN ba))), (t2, .inl (cI, 6, .inl (cN se))), (v0, .inr (1, [.ref v1, .int (nI vw.length)])), (v1, .inl (cI, 6, .inl (cN vwr)))]) (w1 := [(g0, .inr (3, [.ref g1, .int (nI es1)])), (g1, .inl (cI, 6, .inl (cN (zeroF gi 6))))]) hP hD [0, 1] [2, 3, 4, 5, 6] rfl rfl (by decide) (by decide) hk1 hFc hP1 hD1
  generalize H1 = H at hP hS ⊢
  have hP := hP.sub (ws' := [(g0, .inr (3, [.ref g1, .int (nI es1)])), (g1, .inl (cI, 6, .inl (cN (zeroF gi 6)))), (t0, .inr (4, [.ref t1, .ref t2, .ref t3, .ref t4, .ref u0, .int (nI li), .ref t5])), (t1, .inl (cI, 6, .inl (cN ba))), (t2, .inl (cI, 6, .inl (cN se))), (v0, .inr (1, [.ref v1, .int (nI vw.length)])), (v1, .inl (cI, 6, .inl (cN vwr)))]) [5, 6, 0, 1, 2, 3, 4] rfl
  have hD := hD.sub (ws' := [(g0, .inr (3, [.ref g1, .int (nI es1)])), (g1, .inl (cI, 6, .inl (cN (zeroF gi 6)))), (t0, .inr (4, [.ref t1, .ref t2, .ref t3, .ref t4, .ref u0, .int (nI li), .ref t5])), (t1, .inl (cI, 6, .inl (cN ba))), (t2, .inl (cI, 6, .inl (cN se))), (v0, .inr (1, [.ref v1, .int (nI vw.length)])), (v1, .inl (cI, 6, .inl (cN vwr)))]) [5, 6, 0, 1, 2, 3, 4] (by decide) rfl
  refine lv_iconst (v := nI 1) hx hb dX3_shareBySteps_5 (by decide) ?_
  refine lv_istore (lv' := [(4, .int (nI 1)), (0, .ref g0), (1, .ref v0), (2, .ref t0), (3, .int (nI es1))]) hx hb dX3_shareBySteps_6 hl (by decide) rfl (fun ls hl => ?_)
  refine lv_iconst (v := nI 0) hx hb dX3_shareBySteps_8 (by decide) ?_
  refine lv_istore (lv' := [(5, .int (nI 0)), (4, .int (nI 1)), (0, .ref g0), (1, .ref v0), (2, .ref t0), (3, .int (nI es1))]) hx hb dX3_shareBySteps_9 hl (by decide) rfl (fun ls hl => ?_)
  have L11 : ∀ (n : Nat) (go : Bool) (i : Nat) (gi2 : Nat → Nat) (rs2 : Nat) (H : Heap) (locs : List Loc) (ls : Array Slot), (i ≤ 18) → ((gi2, rs2) = itS ba se vw (zeroF gi 6, es1) i) → (go = true ∨ fixS ba se vw (gi2, rs2)) → (∀ k, k < 6 → gi2 k ≤ 3) → (rs2 ≤ 2000) → (18 - i < n) → va_P (dC, dI) vwCl [(g0, .inr (3, [.ref g1, .int (nI rs2)])), (g1, .inl (cI, 6, .inl (cN gi2))), (t0, .inr (4, [.ref t1, .ref t2, .ref t3, .ref t4, .ref u0, .int (nI li), .ref t5])), (t1, .inl (cI, 6, .inl (cN ba))), (t2, .inl (cI, 6, .inl (cN se))), (v0, .inr (1, [.ref v1, .int (nI vw.length)])), (v1, .inl (cI, 6, .inl (cN vwr)))] H → va_D A [(g0, .inr (3, [.ref g1, .int (nI rs2)])), (g1, .inl (cI, 6, .inl (cN gi2))), (t0, .inr (4, [.ref t1, .ref t2, .ref t3, .ref t4, .ref u0, .int (nI li), .ref t5])), (t1, .inl (cI, 6, .inl (cN ba))), (t2, .inl (cI, 6, .inl (cN se))), (v0, .inr (1, [.ref v1, .int (nI vw.length)])), (v1, .inl (cI, 6, .inl (cN vwr)))] → va_S A s.heap H locs → lv_has ls 6 [(0, .ref g0), (1, .ref v0), (2, .ref t0), (3, .int (nI es1)), (4, .int (bI go)), (5, .int (nI i))] → W p l e ({ frames := 2, cells := 0, slots := 0, locals := 45 } : Room) s m args below meth c H locs 0 0 Q (F0 m 11 ls []) := by
    intro n
    induction n with
    | zero =>
      intro go i gi2 rs2 H locs ls hi hh hgo hg2 hr2 hm
      exact absurd hm (Nat.not_lt_zero _)
    | succ n ih11 =>
      intro go i gi2 rs2 H locs ls hi hh hgo hg2 hr2 hm hP hD hS hl
      refine lv_iload hx hb dX3_shareBySteps_11 (lv_at hl 4 rfl) ?_
      refine q_zeq (tgt := 54) hx hb (b := go) dX3_shareBySteps_13 (by decide) (fun c13 => ?_) (fun c13 => ?_)
      · refine kret 54 _ _ _ gi2 rs2 ?_ dX3_shareBySteps_54 hP hD hS
        · first | exact ⟨i, hh, Or.inl (by omega)⟩ | exact ⟨i, hh, hgo.elim (fun q => absurd (c13.symm.trans q) (by decide)) Or.inr⟩
      · refine lv_iload hx hb dX3_shareBySteps_16 (lv_at hl 5 rfl) ?_
        refine lv_bipush (v := nI 18) hx hb dX3_shareBySteps_18 (by decide) ?_
        refine q_ge (tgt := 54) hx hb (a := i) (b := 18) (by omega) (by omega) dX3_shareBySteps_20 (by decide) (fun c20 => ?_) (fun c20 => ?_)
        · refine kret 54 _ _ _ gi2 rs2 ?_ dX3_shareBySteps_54 hP hD hS
          · first | exact ⟨i, hh, Or.inl (by omega)⟩ | exact ⟨i, hh, hgo.elim (fun q => absurd (c13.symm.trans q) (by decide)) Or.inr⟩
        · refine lv_aload_n hx hb dX3_shareBySteps_23 rfl (lv_at hl 0 rfl) ?_
          refine lv_aload_n hx hb dX3_shareBySteps_24 rfl (lv_at hl 1 rfl) ?_
          refine lv_aload_n hx hb dX3_shareBySteps_25 rfl (lv_at hl 2 rfl) ?_
          have hPc := hP.sub (ws' := [(g0, .inr (3, [.ref g1, .int (nI rs2)])), (g1, .inl (cI, 6, .inl (cN gi2))), (t0, .inr (4, [.ref t1, .ref t2, .ref t3, .ref t4, .ref u0, .int (nI li), .ref t5])), (t1, .inl (cI, 6, .inl (cN ba))), (v0, .inr (1, [.ref v1, .int (nI vw.length)])), (v1, .inl (cI, 6, .inl (cN vwr)))]) [0, 1, 2, 3, 5, 6] rfl
          have hDc := hD.sub (ws' := [(g0, .inr (3, [.ref g1, .int (nI rs2)])), (g1, .inl (cI, 6, .inl (cN gi2))), (t0, .inr (4, [.ref t1, .ref t2, .ref t3, .ref t4, .ref u0, .int (nI li), .ref t5])), (t1, .inl (cI, 6, .inl (cN ba))), (v0, .inr (1, [.ref v1, .int (nI vw.length)])), (v1, .inl (cI, 6, .inl (cN vwr)))]) [0, 1, 2, 3, 5, 6] (by decide) rfl
          have hFc := va_free (wc := [(g0, .inr (3, [.ref g1, .int (nI rs2)])), (g1, .inl (cI, 6, .inl (cN gi2))), (t0, .inr (4, [.ref t1, .ref t2, .ref t3, .ref t4, .ref u0, .int (nI li), .ref t5])), (t1, .inl (cI, 6, .inl (cN ba))), (v0, .inr (1, [.ref v1, .int (nI vw.length)])), (v1, .inl (cI, 6, .inl (cN vwr)))]) hD hS hA [0, 1, 2, 3, 5, 6] rfl
          have hq2_0 : lrep vwr vw := by
            first | assumption | omega
          have hq2_1 : ∀ k, k < 6 → gi2 k ≤ 3 := by
            first | assumption | omega
          have hq2_2 : ∀ k, ba k ≤ 100 := by
            first | assumption | omega
          have hq2_3 : rs2 ≤ 2000 := by
            first | assumption | omega
          refine va_calli (va_runV (As := [.ref v0, .ref t0]) (rest := []) ⟨hx, hb, hml, hown, hts⟩ (c_X3_giveOneFirstLayer l dC dI cI cZ cG g0 g1 rs2 t0 t1 t2 t3 t4 t5 u0 li v0 v1 gi2 ba vwr vw H.size hq2_0 hq2_1 hq2_2 hq2_3) (cwV 2 hts gX3_shareBySteps_X3_giveOneFirstLayer rfl rfl rfl (by decide +kernel) ⟨Nat.le_of_ble_eq_true rfl, Nat.le_of_ble_eq_true rfl⟩) ⟨fun a U g mk q => q_blind q, va_recv hK hPc (ci := 3) (q0 := 0) rfl rfl, fun U hU hW => ⟨rfl, by rw [hU], by rw [hU]; exact hPc, va_K.moved hW.alike hK, hDc.weaken (fun _ _ _ _ => trivial)⟩⟩ rfl rfl hl.1 rfl (lv_room (Nat.le_of_ble_eq_true rfl)) dX3_shareBySteps_26 ⟨by decide, by decide⟩) hS (fun q _ h => hFc q h) hFc (fun rv u t H1 locs ht hvm hw hB hz1 hk1 hS => ?_)
          obtain ⟨  hr2, hP1, hD1⟩ := hB
          rw [ht] at hP1
          subst hw
          subst hr2
          obtain ⟨hP, hD⟩ := va_join (wr := [(t2, .inl (cI, 6, .inl (cN se)))]) (w1 := [(g0, .inr (3, [.ref g1, .int (nI (oneR1 ba gi2 rs2 vw))])), (g1, .inl (cI, 6, .inl (cN (oneG1 ba gi2 rs2 vw)))), (t0, .inr (4, [.ref t1, .ref t2, .ref t3, .ref t4, .ref u0, .int (nI li), .ref t5])), (t1, .inl (cI, 6, .inl (cN ba))), (v0, .inr (1, [.ref v1, .int (nI vw.length)])), (v1, .inl (cI, 6, .inl (cN vwr)))]) hP hD [0, 1, 2, 3, 5, 6] [4] rfl rfl (by decide) (by decide) hk1 hFc hP1 hD1
          generalize H1 = H at hP hS ⊢
          have hP := hP.sub (ws' := [(g0, .inr (3, [.ref g1, .int (nI (oneR1 ba gi2 rs2 vw))])), (g1, .inl (cI, 6, .inl (cN (oneG1 ba gi2 rs2 vw)))), (t0, .inr (4, [.ref t1, .ref t2, .ref t3, .ref t4, .ref u0, .int (nI li), .ref t5])), (t1, .inl (cI, 6, .inl (cN ba))), (t2, .inl (cI, 6, .inl (cN se))), (v0, .inr (1, [.ref v1, .int (nI vw.length)])), (v1, .inl (cI, 6, .inl (cN vwr)))]) [1, 2, 3, 4, 0, 5, 6] rfl
          have hD := hD.sub (ws' := [(g0, .inr (3, [.ref g1, .int (nI (oneR1 ba gi2 rs2 vw))])), (g1, .inl (cI, 6, .inl (cN (oneG1 ba gi2 rs2 vw)))), (t0, .inr (4, [.ref t1, .ref t2, .ref t3, .ref t4, .ref u0, .int (nI li), .ref t5])), (t1, .inl (cI, 6, .inl (cN ba))), (t2, .inl (cI, 6, .inl (cN se))), (v0, .inr (1, [.ref v1, .int (nI vw.length)])), (v1, .inl (cI, 6, .inl (cN vwr)))]) [1, 2, 3, 4, 0, 5, 6] (by decide) rfl
          refine q_zne (tgt := 41) hx hb (b := ((f1F ba gi2 rs2 vw).isSome)) dX3_shareBySteps_29 (by decide) (fun c29 => ?_) (fun c29 => ?_)
          · refine lv_iconst (v := nI 1) hx hb dX3_shareBySteps_41 (by decide) ?_
            refine lv_goto (tgt := 46) hx hb dX3_shareBySteps_42 (by decide) ?_
            refine lv_istore (lv' := [(4, .int (nI 1)), (0, .ref g0), (1, .ref v0), (2, .ref t0), (3, .int (nI es1)), (5, .int (nI i))]) hx hb dX3_shareBySteps_46 hl (by decide) rfl (fun ls hl => ?_)
            refine lv_iinc (v := nI (i + 1)) (lv' := [(5, .int (nI (i + 1))), (4, .int (nI 1)), (0, .ref g0), (1, .ref v0), (2, .ref t0), (3, .int (nI es1))]) hx hb dX3_shareBySteps_48 hl (k := 5) rfl (q_inc i 1) (by decide) rfl (fun ls hl => ?_)
            refine lv_goto (tgt := 11) hx hb dX3_shareBySteps_51 (by decide) ?_
            refine ih11 true (i + 1) (oneG1 ba gi2 rs2 vw) (oneR1 ba gi2 rs2 vw) _ _ _ ?_ ?_ ?_ ?_ ?_ (by omega) hP hD hS (lv_sub hl [2, 3, 4, 5, 1, 0] rfl)
            · omega
            · simp only [itS]
              rw [← hh]
              first | exact (stp_1 c29).symm | exact (stp_2 c29).symm
            · first | exact Or.inl rfl | (refine Or.inr ?_; rw [(one2_n (none_of c38)).1, (one2_n (none_of c38)).2]; exact ⟨none_of c29, none_of c38⟩)
            · first | exact oneG1_le hg2 | exact oneG2_le hg2
            · first | exact Nat.le_trans (oneR1_le _ _ _ _) hr2 | exact Nat.le_trans (oneR2_le _ _ _ _) hr2
          · have ef3 : oneG1 ba gi2 rs2 vw = gi2 := by
              exact (one1_n (none_of c29)).1
            have ef4 : oneR1 ba gi2 rs2 vw = rs2 := by
              exact (one1_n (none_of c29)).2
            rw [ef3, ef4] at hP hD
            refine lv_aload_n hx hb dX3_shareBySteps_32 rfl (lv_at hl 0 rfl) ?_
            refine lv_aload_n hx hb dX3_shareBySteps_33 rfl (lv_at hl 1 rfl) ?_
            refine lv_aload_n hx hb dX3_shareBySteps_34 rfl (lv_at hl 2 rfl) ?_
            have hPc := hP.sub (ws' := [(g0, .inr (3, [.ref g1, .int (nI rs2)])), (g1, .inl (cI, 6, .inl (cN gi2))), (t0, .inr (4, [.ref t1, .ref t2, .ref t3, .ref t4, .ref u0, .int (nI li), .ref t5])), (t2, .inl (cI, 6, .inl (cN se))), (v0, .inr (1, [.ref v1, .int (nI vw.length)])), (v1, .inl (cI, 6, .inl (cN vwr)))]) [0, 1, 2, 4, 5, 6] rfl
            have hDc := hD.sub (ws' := [(g0, .inr (3, [.ref g1, .int (nI rs2)])), (g1, .inl (cI, 6, .inl (cN gi2))), (t0, .inr (4, [.ref t1, .ref t2, .ref t3, .ref t4, .ref u0, .int (nI li), .ref t5])), (t2, .inl (cI, 6, .inl (cN se))), (v0, .inr (1, [.ref v1, .int (nI vw.length)])), (v1, .inl (cI, 6, .inl (cN vwr)))]) [0, 1, 2, 4, 5, 6] (by decide) rfl
            have hFc := va_free (wc := [(g0, .inr (3, [.ref g1, .int (nI rs2)])), (g1, .inl (cI, 6, .inl (cN gi2))), (t0, .inr (4, [.ref t1, .ref t2, .ref t3, .ref t4, .ref u0, .int (nI li), .ref t5])), (t2, .inl (cI, 6, .inl (cN se))), (v0, .inr (1, [.ref v1, .int (nI vw.length)])), (v1, .inl (cI, 6, .inl (cN vwr)))]) hD hS hA [0, 1, 2, 4, 5, 6] rfl
            have hq5_0 : lrep vwr vw := by
              first | assumption | omega
            have hq5_1 : ∀ k, k < 6 → gi2 k ≤ 3 := by
              first | assumption | omega
            have hq5_2 : ∀ k, se k ≤ 100 := by
              first | assumption | omega
            have hq5_3 : rs2 ≤ 2000 := by
              first | assumption | omega
            refine va_calli (va_runV (As := [.ref v0, .ref t0]) (rest := []) ⟨hx, hb, hml, hown, hts⟩ (c_X3_giveOneNextLayer l dC dI cI cZ cG g0 g1 rs2 t0 t1 t2 t3 t4 t5 u0 li v0 v1 gi2 se vwr vw H.size hq5_0 hq5_1 hq5_2 hq5_3) (cwV 2 hts gX3_shareBySteps_X3_giveOneNextLayer rfl rfl rfl (by decide +kernel) ⟨Nat.le_of_ble_eq_true rfl, Nat.le_of_ble_eq_true rfl⟩) ⟨fun a U g mk q => q_blind q, va_recv hK hPc (ci := 3) (q0 := 0) rfl rfl, fun U hU hW => ⟨rfl, by rw [hU], by rw [hU]; exact hPc, va_K.moved hW.alike hK, hDc.weaken (fun _ _ _ _ => trivial)⟩⟩ rfl rfl hl.1 rfl (lv_room (Nat.le_of_ble_eq_true rfl)) dX3_shareBySteps_35 ⟨by decide, by decide⟩) hS (fun q _ h => hFc q h) hFc (fun rv u t H1 locs ht hvm hw hB hz1 hk1 hS => ?_)
            obtain ⟨  hr5, hP1, hD1⟩ := hB
            rw [ht] at hP1
            subst hw
            subst hr5
            obtain ⟨hP, hD⟩ := va_join (wr := [(t1, .inl (cI, 6, .inl (cN ba)))]) (w1 := [(g0, .inr (3, [.ref g1, .int (nI (oneR2 se gi2 rs2 vw))])), (g1, .inl (cI, 6, .inl (cN (oneG2 se gi2 rs2 vw)))), (t0, .inr (4, [.ref t1, .ref t2, .ref t3, .ref t4, .ref u0, .int (nI li), .ref t5])), (t2, .inl (cI, 6, .inl (cN se))), (v0, .inr (1, [.ref v1, .int (nI vw.length)])), (v1, .inl (cI, 6, .inl (cN vwr)))]) hP hD [0, 1, 2, 4, 5, 6] [3] rfl rfl (by decide) (by decide) hk1 hFc hP1 hD1
            generalize H1 = H at hP hS ⊢
            have hP := hP.sub (ws' := [(g0, .inr (3, [.ref g1, .int (nI (oneR2 se gi2 rs2 vw))])), (g1, .inl (cI, 6, .inl (cN (oneG2 se gi2 rs2 vw)))), (t0, .inr (4, [.ref t1, .ref t2, .ref t3, .ref t4, .ref u0, .int (nI li), .ref t5])), (t1, .inl (cI, 6, .inl (cN ba))), (t2, .inl (cI, 6, .inl (cN se))), (v0, .inr (1, [.ref v1, .int (nI vw.length)])), (v1, .inl (cI, 6, .inl (cN vwr)))]) [1, 2, 3, 0, 4, 5, 6] rfl
            have hD := hD.sub (ws' := [(g0, .inr (3, [.ref g1, .int (nI (oneR2 se gi2 rs2 vw))])), (g1, .inl (cI, 6, .inl (cN (oneG2 se gi2 rs2 vw)))), (t0, .inr (4, [.ref t1, .ref t2, .ref t3, .ref t4, .ref u0, .int (nI li), .ref t5])), (t1, .inl (cI, 6, .inl (cN ba))), (t2, .inl (cI, 6, .inl (cN se))), (v0, .inr (1, [.ref v1, .int (nI vw.length)])), (v1, .inl (cI, 6, .inl (cN vwr)))]) [1, 2, 3, 0, 4, 5, 6] (by decide) rfl
            refine q_zeq (tgt := 45) hx hb (b := ((f2F se gi2 rs2 vw).isSome)) dX3_shareBySteps_38 (by decide) (fun c38 => ?_) (fun c38 => ?_)
            · refine lv_iconst (v := nI 0) hx hb dX3_shareBySteps_45 (by decide) ?_
              refine lv_istore (lv' := [(4, .int (nI 0)), (0, .ref g0), (1, .ref v0), (2, .ref t0), (3, .int (nI es1)), (5, .int (nI i))]) hx hb dX3_shareBySteps_46 hl (by decide) rfl (fun ls hl => ?_)
              refine lv_iinc (v := nI (i + 1)) (lv' := [(5, .int (nI (i + 1))), (4, .int (nI 0)), (0, .ref g0), (1, .ref v0), (2, .ref t0), (3, .int (nI es1))]) hx hb dX3_shareBySteps_48 hl (k := 5) rfl (q_inc i 1) (by decide) rfl (fun ls hl => ?_)
              refine lv_goto (tgt := 11) hx hb dX3_shareBySteps_51 (by decide) ?_
              refine ih11 false (i + 1) (oneG2 se gi2 rs2 vw) (oneR2 se gi2 rs2 vw) _ _ _ ?_ ?_ ?_ ?_ ?_ (by omega) hP hD hS (lv_sub hl [2, 3, 4, 5, 1, 0] rfl)
              · omega
              · simp only [itS]
                rw [← hh]
                first | exact (stp_1 c29).symm | exact (stp_2 c29).symm
              · first | exact Or.inl rfl | (refine Or.inr ?_; rw [(one2_n (none_of c38)).1, (one2_n (none_of c38)).2]; exact ⟨none_of c29, none_of c38⟩)
              · first | exact oneG1_le hg2 | exact oneG2_le hg2
              · first | exact Nat.le_trans (oneR1_le _ _ _ _) hr2 | exact Nat.le_trans (oneR2_le _ _ _ _) hr2
            · refine lv_iconst (v := nI 1) hx hb dX3_shareBySteps_41 (by decide) ?_
              refine lv_goto (tgt := 46) hx hb dX3_shareBySteps_42 (by decide) ?_
              refine lv_istore (lv' := [(4, .int (nI 1)), (0, .ref g0), (1, .ref v0), (2, .ref t0), (3, .int (nI es1)), (5, .int (nI i))]) hx hb dX3_shareBySteps_46 hl (by decide) rfl (fun ls hl => ?_)
              refine lv_iinc (v := nI (i + 1)) (lv' := [(5, .int (nI (i + 1))), (4, .int (nI 1)), (0, .ref g0), (1, .ref v0), (2, .ref t0), (3, .int (nI es1))]) hx hb dX3_shareBySteps_48 hl (k := 5) rfl (q_inc i 1) (by decide) rfl (fun ls hl => ?_)
              refine lv_goto (tgt := 11) hx hb dX3_shareBySteps_51 (by decide) ?_
              refine ih11 true (i + 1) (oneG2 se gi2 rs2 vw) (oneR2 se gi2 rs2 vw) _ _ _ ?_ ?_ ?_ ?_ ?_ (by omega) hP hD hS (lv_sub hl [2, 3, 4, 5, 1, 0] rfl)
              · omega
              · simp only [itS]
                rw [← hh]
                first | exact (stp_1 c29).symm | exact (stp_2 c29).symm
              · first | exact Or.inl rfl | (refine Or.inr ?_; rw [(one2_n (none_of c38)).1, (one2_n (none_of c38)).2]; exact ⟨none_of c29, none_of c38⟩)
              · first | exact oneG1_le hg2 | exact oneG2_le hg2
              · first | exact Nat.le_trans (oneR1_le _ _ _ _) hr2 | exact Nat.le_trans (oneR2_le _ _ _ _) hr2
  refine L11 _ true 0 (zeroF gi 6) es1 _ _ _ ?_ ?_ ?_ ?_ ?_ (Nat.lt_succ_self _) hP hD hS (lv_sub hl [2, 3, 4, 5, 1, 0] rfl)
  · omega
  · rfl
  · exact Or.inl rfl
  · exact zeroF_3 gi
  · exact hes

set_option maxHeartbeats 4000000 in
set_option maxRecDepth 100000 in
theorem c_X3_shareBySteps (l : Launch) (dC : Nat → ClassId) (dI : Nat → Nat → Nat) (cI cZ cG : ClassId) (g0 : Nat) (g1 : Nat) (rs : Nat) (t0 : Nat) (t1 : Nat) (t2 : Nat) (t3 : Nat) (t4 : Nat) (t5 : Nat) (u0 : Nat) (li : Nat) (v0 : Nat) (v1 : Nat) (gi : Nat → Nat) (ba : Nat → Nat) (se : Nat → Nat) (vwr : Nat → Nat) (vw : List Nat) (es1 : Nat) (sz : Nat) (hr : lrep vwr vw) (hba : ∀ k, ba k ≤ 100) (hse : ∀ k, se k ≤ 100) (hes : es1 ≤ 2000) : Met l yX3_shareBySteps wsX3_shareBySteps ({ frames := 2, cells := 0, slots := 0, locals := 45 } : Room) (va_Pc [.ref g0, .ref v0, .ref t0, .int (nI es1)] (fun U => U.heap.size = sz ∧ va_P (dC, dI) vwCl [(g0, .inr (3, [.ref g1, .int (nI rs)])), (g1, .inl (cI, 6, .inl (cN gi))), (t0, .inr (4, [.ref t1, .ref t2, .ref t3, .ref t4, .ref u0, .int (nI li), .ref t5])), (t1, .inl (cI, 6, .inl (cN ba))), (t2, .inl (cI, 6, .inl (cN se))), (v0, .inr (1, [.ref v1, .int (nI vw.length)])), (v1, .inl (cI, 6, .inl (cN vwr)))] U.heap ∧ va_K (dC, dI) vwCl [(cI, .int), (cZ, .boolean), (cG, .array .int)] U ∧ va_D (fun _ => True) [(g0, .inr (3, [.ref g1, .int (nI rs)])), (g1, .inl (cI, 6, .inl (cN gi))), (t0, .inr (4, [.ref t1, .ref t2, .ref t3, .ref t4, .ref u0, .int (nI li), .ref t5])), (t1, .inl (cI, 6, .inl (cN ba))), (t2, .inl (cI, 6, .inl (cN se))), (v0, .inr (1, [.ref v1, .int (nI vw.length)])), (v1, .inl (cI, 6, .inl (cN vwr)))])) (va_Qv (fun (_ : Unit) => True) (fun (_ : Unit) t => ∃ (gi9 : Nat → Nat) (rs9 : Nat), (∃ kk, (gi9, rs9) = itS ba se vw (zeroF gi 6, es1) kk ∧ (18 ≤ kk ∨ fixS ba se vw (gi9, rs9))) ∧ va_P (dC, dI) vwCl [(g0, .inr (3, [.ref g1, .int (nI rs9)])), (g1, .inl (cI, 6, .inl (cN gi9))), (t0, .inr (4, [.ref t1, .ref t2, .ref t3, .ref t4, .ref u0, .int (nI li), .ref t5])), (t1, .inl (cI, 6, .inl (cN ba))), (t2, .inl (cI, 6, .inl (cN se))), (v0, .inr (1, [.ref v1, .int (nI vw.length)])), (v1, .inl (cI, 6, .inl (cN vwr)))] t.heap ∧ va_D (va_A [(g0, .inr (3, [.ref g1, .int (nI rs)])), (g1, .inl (cI, 6, .inl (cN gi))), (t0, .inr (4, [.ref t1, .ref t2, .ref t3, .ref t4, .ref u0, .int (nI li), .ref t5])), (t1, .inl (cI, 6, .inl (cN ba))), (t2, .inl (cI, 6, .inl (cN se))), (v0, .inr (1, [.ref v1, .int (nI vw.length)])), (v1, .inl (cI, 6, .inl (cN vwr)))] sz) [(g0, .inr (3, [.ref g1, .int (nI rs9)])), (g1, .inl (cI, 6, .inl (cN gi9))), (t0, .inr (4, [.ref t1, .ref t2, .ref t3, .ref t4, .ref u0, .int (nI li), .ref t5])), (t1, .inl (cI, 6, .inl (cN ba))), (t2, .inl (cI, 6, .inl (cN se))), (v0, .inr (1, [.ref v1, .int (nI vw.length)])), (v1, .inl (cI, 6, .inl (cN vwr)))]) (va_A [(g0, .inr (3, [.ref g1, .int (nI rs)])), (g1, .inl (cI, 6, .inl (cN gi))), (t0, .inr (4, [.ref t1, .ref t2, .ref t3, .ref t4, .ref u0, .int (nI li), .ref t5])), (t1, .inl (cI, 6, .inl (cN ba))), (t2, .inl (cI, 6, .inl (cN se))), (v0, .inr (1, [.ref v1, .int (nI vw.length)])), (v1, .inl (cI, 6, .inl (cN vwr)))] sz)) 0 0 (va_A [(g0, .inr (3, [.ref g1, .int (nI rs)])), (g1, .inl (cI, 6, .inl (cN gi))), (t0, .inr (4, [.ref t1, .ref t2, .ref t3, .ref t4, .ref u0, .int (nI li), .ref t5])), (t1, .inl (cI, 6, .inl (cN ba))), (t2, .inl (cI, 6, .inl (cN se))), (v0, .inr (1, [.ref v1, .int (nI vw.length)])), (v1, .inl (cI, 6, .inl (cN vwr)))] sz) := by
  refine Met.ofW (cc := cX3_shareBySteps) (maxL := 6) (ret := none) (by decide) rfl ?_
  intro p e s m args below meth c s₁ B hml hv
  obtain ⟨rfl, hsz, hP, hK, hD0⟩ := hv
  have hts := atoms_spec (ws := wsX3_shareBySteps) B.pre
  have hown : s.vm.findClass RX3 = some m.cls := findClass_of_methodNamed B.named
  have hlocks := B.notSynchronized
  subst hsz
  have hD := hD0.self (sz := s.heap.size)
  have hA : ∀ q : Nat, s.heap.size ≤ q → va_A [(g0, .inr (3, [.ref g1, .int (nI rs)])), (g1, .inl (cI, 6, .inl (cN gi))), (t0, .inr (4, [.ref t1, .ref t2, .ref t3, .ref t4, .ref u0, .int (nI li), .ref t5])), (t1, .inl (cI, 6, .inl (cN ba))), (t2, .inl (cI, 6, .inl (cN se))), (v0, .inr (1, [.ref v1, .int (nI vw.length)])), (v1, .inl (cI, 6, .inl (cN vwr)))] s.heap.size q := fun q h => Or.inr h
  have hl := lv_entry ([.ref g0, .ref v0, .ref t0, .int (nI es1)]) (n := 6) (Nat.le_of_ble_eq_true rfl)
  rw [lg_entry_eq]
  generalize (lg_sl ([.ref g0, .ref v0, .ref t0, .int (nI es1)]) ++ List.replicate (6 - (lg_sl ([.ref g0, .ref v0, .ref t0, .int (nI es1)])).length) Slot.unset).toArray = ls at hl ⊢
  have hl : lv_has ls 6 [(0, .ref g0), (1, .ref v0), (2, .ref t0), (3, .int (nI es1))] := hl
  have hx := B.exec
  have hb := B.bytes
  exact b_X3_shareBySteps hx hb hml hown hts hK hA g0 g1 rs t0 t1 t2 t3 t4 t5 u0 li v0 v1 gi ba se vwr vw es1 hr hba hse hes  hP hD va_S.rf hl (fun pcr H locs ls gi9 rs9 hp0 hd hP hD hS => W.vret hx hb B.returns (fun t ht hW => ⟨⟨(), rfl, trivial, gi9, rs9, hp0, by rw [ht]; exact hP, hD⟩, hS.F ht⟩) hS.2.2 hd)
