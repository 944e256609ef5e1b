theorem wX7_listens_f113 : Cond.fieldLink RX7 113 "ConfroomModel" "run" "I" ∈ wsX7_listens := by decide +kernel
theorem wX7_listens_f16 : Cond.fieldLink RX7 16 "ConfroomModel" "isThere" "[Z" ∈ wsX7_listens := by decide +kernel
theorem wX7_listens_f20 : Cond.fieldLink RX7 20 "ConfroomModel" "isMuted" "[Z" ∈ wsX7_listens := by decide +kernel
theorem wX7_listens_f23 : Cond.fieldLink RX7 23 "ConfroomModel" "levels" "[I" ∈ wsX7_listens := by decide +kernel
theorem wX7_listens_f60 : Cond.fieldLink RX7 60 "ConfroomModel" "speaker" "I" ∈ wsX7_listens := by decide +kernel
theorem wX7_listens_f63 : Cond.fieldLink RX7 63 "ConfroomModel" "spoke" "[I" ∈ wsX7_listens := by decide +kernel
theorem wX7_listens_f66 : Cond.fieldLink RX7 66 "ConfroomModel" "loudest" "I" ∈ wsX7_listens := by decide +kernel
theorem wX7_listens_f7 : Cond.fieldLink RX7 7 "ConfroomModel" "hold" "I" ∈ wsX7_listens := by decide +kernel
theorem wX7_listens_f89 : Cond.fieldLink RX7 89 "ConfroomModel" "spokeMany" "I" ∈ wsX7_listens := by decide +kernel
theorem wX7_listens_X7_u : ∀ w ∈ u_ws RX7 TX7 27, w ∈ wsX7_listens := by decide +kernel
set_option maxHeartbeats 4000000 in
set_option maxRecDepth 100000 in
theorem b_X7_listens {p : Program} {l : Launch} {e : Env} {s : State} {m : MethodId} {args : Array Value} {below : List Frame} {meth : Method} {c : Code} {Q : State → Prop} {A : Nat → Prop} {dC : Nat → ClassId} {dI : Nat → Nat → Nat} {cI cZ cG : ClassId} (hx : p.tables.exec = Jvm.exec) (hb : c.code = cX7_listens) (hml : c.maxLocals = 4) (hown : s.vm.findClass RX7 = some m.cls) (hts : ∀ w ∈ wsX7_listens, w.before args s = true) (hK : va_K (dC, dI) vwCl [(cI, .int), (cZ, .boolean), (cG, .array .int)] s) (hA : ∀ q : Nat, s.heap.size ≤ q → A q) (m0 : Nat) (m1 : Nat) (m2 : Nat) (m3 : Nat) (m4 : Nat) (m5 : Nat) (m6 : Nat) (m7 : Nat) (m8 : Nat) (m9 : Nat) (m10 : Nat) (m11 : Nat) (m12 : Nat) (m13 : Nat) (m14 : Nat) (m15 : Nat) (m16 : Nat) (m17 : Nat) (th : Nat) (tm : Nat) (ho : Nat) (li : Nat) (bn : Nat) (ld : Option Nat) (sp : List Nat) (lo : Option Nat) (rn : Nat) (sv : List Nat) (he : Nat → Bool) (mu : Nat → Bool) (lv : Nat → Nat) (spr : Nat → Nat) (hlv : ∀ k, lv k ≤ 100) (hsp : lrep spr sp) (hlo : ∀ j, lo = some j → j < 6) (hrn : rn < 900000) (hho : ho ≤ 10)  {H : Heap} {locs : List Loc} {ls : Array Slot} (hP : va_P (dC, dI) vwCl [(m0, .inr (7, [.int (nI th), .int (nI tm), .int (nI ho), .int (nI li), .ref m1, .ref m2, .ref m3, .ref m4, .ref m5, .ref m6, .ref m7, .ref m8, .int (nI bn), .ref m9, .ref m10, .ref m11, .ref m12, .ref m13, .ref m14, .int (oI ld), .int (nI sp.length), .ref m15, .int (oI lo), .int (nI rn), .int (nI sv.length), .ref m16, .ref m17])), (m1, .inl (cZ, 6, .inl (cB he))), (m2, .inl (cZ, 6, .inl (cB mu))), (m3, .inl (cI, 6, .inl (cN lv))), (m15, .inl (cI, 6, .inl (cN spr)))] H) (hD : va_D A [(m0, .inr (7, [.int (nI th), .int (nI tm), .int (nI ho), .int (nI li), .ref m1, .ref m2, .ref m3, .ref m4, .ref m5, .ref m6, .ref m7, .ref m8, .int (nI bn), .ref m9, .ref m10, .ref m11, .ref m12, .ref m13, .ref m14, .int (oI ld), .int (nI sp.length), .ref m15, .int (oI lo), .int (nI rn), .int (nI sv.length), .ref m16, .ref m17])), (m1, .inl (cZ, 6, .inl (cB he))), (m2, .inl (cZ, 6, .inl (cB mu))), (m3, .inl (cI, 6, .inl (cN lv))), (m15, .inl (cI, 6, .inl (cN spr)))]) (hS : va_S A s.heap H locs) (hl : lv_has ls 4 [(0, .ref m0)]) (kret : ∀ (pcr : Nat) (H : Heap) (locs : List Loc) (ls : Array Slot) (spr9 : Nat → Nat), (lrep spr9 (spF (loudF he mu lv) lo rn ho sp)) → decode cX7_listens pcr = .ok (.return_, 1) → va_P (dC, dI) vwCl [(m0, .inr (7, [.int (nI th), .int (nI tm), .int (nI ho), .int (nI li), .ref m1, .ref m2, .ref m3, .ref m4, .ref m5, .ref m6, .ref m7, .ref m8, .int (nI bn), .ref m9, .ref m10, .ref m11, .ref m12, .ref m13, .ref m14, .int (oI (ldF (loudF he mu lv) lo ld rn ho)), .int (nI ((spF (loudF he mu lv) lo rn ho sp).length)), .ref m15, .int (oI (loudF he mu lv)), .int (nI (rnF (loudF he mu lv) lo rn)), .int (nI sv.length), .ref m16, .ref m17])), (m1, .inl (cZ, 6, .inl (cB he))), (m2, .inl (cZ, 6, .inl (cB mu))), (m3, .inl (cI, 6, .inl (cN lv))), (m15, .inl (cI, 6, .inl (cN spr9)))] H → va_D A [(m0, .inr (7, [.int (nI th), .int (nI tm), .int (nI ho), .int (nI li), .ref m1, .ref m2, .ref m3, .ref m4, .ref m5, .ref m6, .ref m7, .ref m8, .int (nI bn), .ref m9, .ref m10, .ref m11, .ref m12, .ref m13, .ref m14, .int (oI (ldF (loudF he mu lv) lo ld rn ho)), .int (nI ((spF (loudF he mu lv) lo rn ho sp).length)), .ref m15, .int (oI (loudF he mu lv)), .int (nI (rnF (loudF he mu lv) lo rn)), .int (nI sv.length), .ref m16, .ref m17])), (m1, .inl (cZ, 6, .inl (cB he))), (m2, .inl (cZ, 6, .inl (cB mu))), (m3, .inl (cI, 6, .inl (cN lv))), (m15, .inl (cI, 6, .inl (cN spr9)))] → va_S A s.heap H locs → W p l e ({ frames := 1, cells := 0, slots := 0, locals := 23 } : Room) s m args below meth c H locs 0 0 Q (F0 m pcr ls [])) : W p l e ({ frames := 1, cells := 0, slots := 0, locals := 23 } : Room) s m args below meth c H locs 0 0 Q (F0 m 0 ls []) := by
  refine lv_iconst (v := oI none) hx hb dX7_listens_0 (by decide) ?_
  refine lv_istore_n (lv' := [(1, .int (oI none)), (0, .ref m0)]) hx hb dX7_listens_1 rfl hl (by decide) rfl (fun ls hl => ?_)
  refine lv_iconst (v := nI 0) hx hb dX7_listens_2 (by decide) ?_
  refine lv_istore_n (lv' := [(2, .int (nI 0)), (1, .int (oI none)), (0, .ref m0)]) hx hb dX7_listens_3 rfl hl (by decide) rfl (fun ls hl => ?_)
  have L4 : ∀ (n : Nat) (i : Nat) (fo : Option Nat) (H : Heap) (locs : List Loc) (ls : Array Slot), (i ≤ 6) → ((loudI he mu lv i).1 = fo) → (6 - i < n) → va_P (dC, dI) vwCl [(m0, .inr (7, [.int (nI th), .int (nI tm), .int (nI ho), .int (nI li), .ref m1, .ref m2, .ref m3, .ref m4, .ref m5, .ref m6, .ref m7, .ref m8, .int (nI bn), .ref m9, .ref m10, .ref m11, .ref m12, .ref m13, .ref m14, .int (oI ld), .int (nI sp.length), .ref m15, .int (oI lo), .int (nI rn), .int (nI sv.length), .ref m16, .ref m17])), (m1, .inl (cZ, 6, .inl (cB he))), (m2, .inl (cZ, 6, .inl (cB mu))), (m3, .inl (cI, 6, .inl (cN lv))), (m15, .inl (cI, 6, .inl (cN spr)))] H → va_D A [(m0, .inr (7, [.int (nI th), .int (nI tm), .int (nI ho), .int (nI li), .ref m1, .ref m2, .ref m3, .ref m4, .ref m5, .ref m6, .ref m7, .ref m8, .int (nI bn), .ref m9, .ref m10, .ref m11, .ref m12, .ref m13, .ref m14, .int (oI ld), .int (nI sp.length), .ref m15, .int (oI lo), .int (nI rn), .int (nI sv.length), .ref m16, .ref m17])), (m1, .inl (cZ, 6, .inl (cB he))), (m2, .inl (cZ, 6, .inl (cB mu))), (m3, .inl (cI, 6, .inl (cN lv))), (m15, .inl (cI, 6, .inl (cN spr)))] → va_S A s.heap H locs → lv_has ls 4 [(0, .ref m0), (1, .int (oI fo)), (2, .int (nI i))] → W p l e ({ frames := 1, cells := 0, slots := 0, locals := 23 } : Room) s m args below meth c H locs 0 0 Q (F0 m 4 ls []) := by
    intro n
    induction n with
    | zero =>
      intro i fo H locs ls hi hf hm
      exact absurd hm (Nat.not_lt_zero _)
    | succ n ih4 =>
      intro i fo H locs ls hi hf hm hP hD hS hl
      refine lv_iload_n hx hb dX7_listens_4 rfl (lv_at hl 2 rfl) ?_
      refine lv_bipush (v := nI 6) hx hb dX7_listens_5 (by decide) ?_
      refine q_ge (tgt := 81) hx hb (a := i) (b := 6) (by omega) (by omega) dX7_listens_7 (by decide) (fun c7 => ?_) (fun c7 => ?_)
      · have hfo : loudF he mu lv = fo := by
          unfold loudF
          rw [show (6 : Nat) = i by omega]; exact hf
        have hfb2 : ∀ j, fo = some j → j < 2 ^ 31 := fun j hj => Nat.lt_trans (loudF_lt (hfo.trans hj)) (by decide)
        have hlob : ∀ j, lo = some j → j < 2 ^ 31 := fun j hj => Nat.lt_trans (hlo j hj) (by decide)
        have L109 : ∀ (r9 : Nat) (H : Heap) (locs : List Loc) (ls : Array Slot), (r9 = rnF fo lo rn) → va_P (dC, dI) vwCl [(m0, .inr (7, [.int (nI th), .int (nI tm), .int (nI ho), .int (nI li), .ref m1, .ref m2, .ref m3, .ref m4, .ref m5, .ref m6, .ref m7, .ref m8, .int (nI bn), .ref m9, .ref m10, .ref m11, .ref m12, .ref m13, .ref m14, .int (oI ld), .int (nI sp.length), .ref m15, .int (oI lo), .int (nI rn), .int (nI sv.length), .ref m16, .ref m17])), (m1, .inl (cZ, 6, .inl (cB he))), (m2, .inl (cZ, 6, .inl (cB mu))), (m3, .inl (cI, 6, .inl (cN lv))), (m15, .inl (cI, 6, .inl (cN spr)))] H → va_D A [(m0, .inr (7, [.int (nI th), .int (nI tm), .int (nI ho), .int (nI li), .ref m1, .ref m2, .ref m3, .ref m4, .ref m5, .ref m6, .ref m7, .ref m8, .int (nI bn), .ref m9, .ref m10, .ref m11, .ref m12, .ref m13, .ref m14, .int (oI ld), .int (nI sp.length), .ref m15, .int (oI lo), .int (nI rn), .int (nI sv.length), .ref m16, .ref m17])), (m1, .inl (cZ, 6, .inl (cB he))), (m2, .inl (cZ, 6, .inl (cB mu))), (m3, .inl (cI, 6, .inl (cN lv))), (m15, .inl (cI, 6, .inl (cN spr)))] → va_S A s.heap H locs → lv_has ls 4 [(0, .ref m0), (1, .int (oI fo))] → W p l e ({ frames := 1, cells := 0, slots := 0, locals := 23 } : Room) s m args below meth c H locs 0 0 Q (F0 m 109 ls [.int (nI r9), .ref m0]) := by
          intro r9 H locs ls hr9 hP hD hS hl
          have hr10 := rnF_le fo lo rn
          refine va_put (D := (dC, dI)) (ci := 7) (v := .int (nI r9)) (ty := .int) (C := RX7) (T := TX7) (N := 27) hx hb hts (wX7_listens_X7_u) tyX7 tyX7_ok nmX7 hown hK hP hD hS 0 rfl rfl 23 (by decide) (hts (.fieldLink RX7 113 "ConfroomModel" "run" "I") (wX7_listens_f113)) (fun _ h9 => h9) rfl (by decide +kernel) rfl rfl (Nat.le_of_ble_eq_true rfl) dX7_listens_109 (fun H locs hP hD hS => ?_)
          have hP : va_P (dC, dI) vwCl [(m0, .inr (7, [.int (nI th), .int (nI tm), .int (nI ho), .int (nI li), .ref m1, .ref m2, .ref m3, .ref m4, .ref m5, .ref m6, .ref m7, .ref m8, .int (nI bn), .ref m9, .ref m10, .ref m11, .ref m12, .ref m13, .ref m14, .int (oI ld), .int (nI sp.length), .ref m15, .int (oI lo), .int (nI r9), .int (nI sv.length), .ref m16, .ref m17])), (m1, .inl (cZ, 6, .inl (cB he))), (m2, .inl (cZ, 6, .inl (cB mu))), (m3, .inl (cI, 6, .inl (cN lv))), (m15, .inl (cI, 6, .inl (cN spr)))] H := hP
          have hD : va_D A [(m0, .inr (7, [.int (nI th), .int (nI tm), .int (nI ho), .int (nI li), .ref m1, .ref m2, .ref m3, .ref m4, .ref m5, .ref m6, .ref m7, .ref m8, .int (nI bn), .ref m9, .ref m10, .ref m11, .ref m12, .ref m13, .ref m14, .int (oI ld), .int (nI sp.length), .ref m15, .int (oI lo), .int (nI r9), .int (nI sv.length), .ref m16, .ref m17])), (m1, .inl (cZ, 6, .inl (cB he))), (m2, .inl (cZ, 6, .inl (cB mu))), (m3, .inl (cI, 6, .inl (cN lv))), (m15, .inl (cI, 6, .inl (cN spr)))] := hD
          refine lv_aload_n hx hb dX7_listens_112 rfl (lv_at hl 0 rfl) ?_
          refine lv_iload_n hx hb dX7_listens_113 rfl (lv_at hl 1 rfl) ?_
          refine va_put (D := (dC, dI)) (ci := 7) (v := .int (oI fo)) (ty := .int) (C := RX7) (T := TX7) (N := 27) hx hb hts (wX7_listens_X7_u) tyX7 tyX7_ok nmX7 hown hK hP hD hS 0 rfl rfl 22 (by decide) (hts (.fieldLink RX7 66 "ConfroomModel" "loudest" "I") (wX7_listens_f66)) (fun _ h9 => h9) rfl (by decide +kernel) rfl rfl (Nat.le_of_ble_eq_true rfl) dX7_listens_114 (fun H locs hP hD hS => ?_)
          have hP : va_P (dC, dI) vwCl [(m0, .inr (7, [.int (nI th), .int (nI tm), .int (nI ho), .int (nI li), .ref m1, .ref m2, .ref m3, .ref m4, .ref m5, .ref m6, .ref m7, .ref m8, .int (nI bn), .ref m9, .ref m10, .ref m11, .ref m12, .ref m13, .ref m14, .int (oI ld), .int (nI sp.length), .ref m15, .int (oI fo), .int (nI r9), .int (nI sv.length), .ref m16, .ref m17])), (m1, .inl (cZ, 6, .inl (cB he))), (m2, .inl (cZ, 6, .inl (cB mu))), (m3, .inl (cI, 6, .inl (cN lv))), (m15, .inl (cI, 6, .inl (cN spr)))] H := hP
          have hD : va_D A [(m0, .inr (7, [.int (nI th), .int (nI tm), .int (nI ho), .int (nI li), .ref m1, .ref m2, .ref m3, .ref m4, .ref m5, .ref m6, .ref m7, .ref m8, .int (nI bn), .ref m9, .ref m10, .ref m11, .ref m12, .ref m13, .ref m14, .int (oI ld), .int (nI sp.length), .ref m15, .int (oI fo), .int (nI r9), .int (nI sv.length), .ref m16, .ref m17])), (m1, .inl (cZ, 6, .inl (cB he))), (m2, .inl (cZ, 6, .inl (cB mu))), (m3, .inl (cI, 6, .inl (cN lv))), (m15, .inl (cI, 6, .inl (cN spr)))] := hD
          refine lv_iload_n hx hb dX7_listens_117 rfl (lv_at hl 1 rfl) ?_
          refine lv_iconst (v := oI none) hx hb dX7_listens_118 (by decide) ?_
          refine q_eqOn (tgt := 189) hx hb (o := fo) (hfb2) dX7_listens_119 (by decide) (fun c119 => ?_) (fun c119 => ?_)
          · have ec1 : ldF (loudF he mu lv) lo ld rn ho = ld := by
              rw [hfo]; first | (rw [c119]; rfl) | exact ldF_lt (by rw [hls]; omega) | exact ldF_ge (by rw [hls]; omega)
            have ec2 : (spF (loudF he mu lv) lo rn ho sp).length = sp.length := by
              rw [hfo]; first | (rw [c119]; rfl) | rw [spF_lt (by rw [hls]; omega)] | (rw [spF_ge (by rw [hls]; omega)]; rfl)
            have ec3 : loudF he mu lv = fo := by
              exact hfo
            have ec4 : rnF (loudF he mu lv) lo rn = r9 := by
              rw [hfo]; exact hr9.symm
            have hP : va_P (dC, dI) vwCl [(m0, .inr (7, [.int (nI th), .int (nI tm), .int (nI ho), .int (nI li), .ref m1, .ref m2, .ref m3, .ref m4, .ref m5, .ref m6, .ref m7, .ref m8, .int (nI bn), .ref m9, .ref m10, .ref m11, .ref m12, .ref m13, .ref m14, .int (oI (ldF (loudF he mu lv) lo ld rn ho)), .int (nI ((spF (loudF he mu lv) lo rn ho sp).length)), .ref m15, .int (oI (loudF he mu lv)), .int (nI (rnF (loudF he mu lv) lo rn)), .int (nI sv.length), .ref m16, .ref m17])), (m1, .inl (cZ, 6, .inl (cB he))), (m2, .inl (cZ, 6, .inl (cB mu))), (m3, .inl (cI, 6, .inl (cN lv))), (m15, .inl (cI, 6, .inl (cN spr)))] H := by
              rw [ec2, ec1, ec4, ec3]
              exact hP
            have hD : va_D A [(m0, .inr (7, [.int (nI th), .int (nI tm), .int (nI ho), .int (nI li), .ref m1, .ref m2, .ref m3, .ref m4, .ref m5, .ref m6, .ref m7, .ref m8, .int (nI bn), .ref m9, .ref m10, .ref m11, .ref m12, .ref m13, .ref m14, .int (oI (ldF (loudF he mu lv) lo ld rn ho)), .int (nI ((spF (loudF he mu lv) lo rn ho sp).length)), .ref m15, .int (oI (loudF he mu lv)), .int (nI (rnF (loudF he mu lv) lo rn)), .int (nI sv.length), .ref m16, .ref m17])), (m1, .inl (cZ, 6, .inl (cB he))), (m2, .inl (cZ, 6, .inl (cB mu))), (m3, .inl (cI, 6, .inl (cN lv))), (m15, .inl (cI, 6, .inl (cN spr)))] := by
              rw [ec2, ec1, ec4, ec3]
              exact hD
            refine kret 189 _ _ _ spr ?_ dX7_listens_189 hP hD hS
            · rw [hfo]; first | (rw [c119]; exact hsp) | (rw [spF_lt (by rw [hls]; omega)]; exact hsp) | (rw [spF_ge (by rw [hls]; omega)]; rw [show k = 0 by omega] at hs; exact shiftI_end hs hgd hjf (drop_notin _ _))
          · obtain ⟨jf, rfl⟩ : ∃ j, fo = some j := Option.ne_none_iff_exists'.mp c119
            have hjf := loudF_lt hfo
            have hls : lsF (some jf) lo rn = r9 := hr9.symm
            refine lv_aload_n hx hb dX7_listens_122 rfl (lv_at hl 0 rfl) ?_
            refine va_get (D := (dC, dI)) (ci := 7) (v := .int (nI r9)) (C := RX7) (T := TX7) (N := 27) hx hb hts (wX7_listens_X7_u) hown hK hP 0 rfl rfl 23 (by decide) (hts (.fieldLink RX7 113 "ConfroomModel" "run" "I") (wX7_listens_f113)) (fun _ h9 => h9) rfl dX7_listens_123 ?_
            refine lv_aload_n hx hb dX7_listens_126 rfl (lv_at hl 0 rfl) ?_
            refine va_get (D := (dC, dI)) (ci := 7) (v := .int (nI ho)) (C := RX7) (T := TX7) (N := 27) hx hb hts (wX7_listens_X7_u) hown hK hP 0 rfl rfl 2 (by decide) (hts (.fieldLink RX7 7 "ConfroomModel" "hold" "I") (wX7_listens_f7)) (fun _ h9 => h9) rfl dX7_listens_127 ?_
            refine q_lt (tgt := 189) hx hb (a := r9) (b := ho) (by omega) (by omega) dX7_listens_130 (by decide) (fun c130 => ?_) (fun c130 => ?_)
            · have ec5 : ldF (loudF he mu lv) lo ld rn ho = ld := by
                rw [hfo]; first | (rw [c119]; rfl) | exact ldF_lt (by rw [hls]; omega) | exact ldF_ge (by rw [hls]; omega)
              have ec6 : (spF (loudF he mu lv) lo rn ho sp).length = sp.length := by
                rw [hfo]; first | (rw [c119]; rfl) | rw [spF_lt (by rw [hls]; omega)] | (rw [spF_ge (by rw [hls]; omega)]; rfl)
              have ec7 : loudF he mu lv = (some jf) := by
                exact hfo
              have ec8 : rnF (loudF he mu lv) lo rn = r9 := by
                rw [hfo]; exact hr9.symm
              have hP : va_P (dC, dI) vwCl [(m0, .inr (7, [.int (nI th), .int (nI tm), .int (nI ho), .int (nI li), .ref m1, .ref m2, .ref m3, .ref m4, .ref m5, .ref m6, .ref m7, .ref m8, .int (nI bn), .ref m9, .ref m10, .ref m11, .ref m12, .ref m13, .ref m14, .int (oI (ldF (loudF he mu lv) lo ld rn ho)), .int (nI ((spF (loudF he mu lv) lo rn ho sp).length)), .ref m15, .int (oI (loudF he mu lv)), .int (nI (rnF (loudF he mu lv) lo rn)), .int (nI sv.length), .ref m16, .ref m17])), (m1, .inl (cZ, 6, .inl (cB he))), (m2, .inl (cZ, 6, .inl (cB mu))), (m3, .inl (cI, 6, .inl (cN lv))), (m15, .inl (cI, 6, .inl (cN spr)))] H := by
                rw [ec6, ec5, ec8, ec7]
                exact hP
              have hD : va_D A [(m0, .inr (7, [.int (nI th), .int (nI tm), .int (nI ho), .int (nI li), .ref m1, .ref m2, .ref m3, .ref m4, .ref m5, .ref m6, .ref m7, .ref m8, .int (nI bn), .ref m9, .ref m10, .ref m11, .ref m12, .ref m13, .ref m14, .int (oI (ldF (loudF he mu lv) lo ld rn ho)), .int (nI ((spF (loudF he mu lv) lo rn ho sp).length)), .ref m15, .int (oI (loudF he mu lv)), .int (nI (rnF (loudF he mu lv) lo rn)), .int (nI sv.length), .ref m16, .ref m17])), (m1, .inl (cZ, 6, .inl (cB he))), (m2, .inl (cZ, 6, .inl (cB mu))), (m3, .inl (cI, 6, .inl (cN lv))), (m15, .inl (cI, 6, .inl (cN spr)))] := by
                rw [ec6, ec5, ec8, ec7]
                exact hD
              refine kret 189 _ _ _ spr ?_ dX7_listens_189 hP hD hS
              · rw [hfo]; first | (rw [c119]; exact hsp) | (rw [spF_lt (by rw [hls]; omega)]; exact hsp) | (rw [spF_ge (by rw [hls]; omega)]; rw [show k = 0 by omega] at hs; exact shiftI_end hs hgd hjf (drop_notin _ _))
            · refine lv_aload_n hx hb dX7_listens_133 rfl (lv_at hl 0 rfl) ?_
              refine lv_iload_n hx hb dX7_listens_134 rfl (lv_at hl 1 rfl) ?_
              refine va_put (D := (dC, dI)) (ci := 7) (v := .int (oI (some jf))) (ty := .int) (C := RX7) (T := TX7) (N := 27) hx hb hts (wX7_listens_X7_u) tyX7 tyX7_ok nmX7 hown hK hP hD hS 0 rfl rfl 19 (by decide) (hts (.fieldLink RX7 60 "ConfroomModel" "speaker" "I") (wX7_listens_f60)) (fun _ h9 => h9) rfl (by decide +kernel) rfl rfl (Nat.le_of_ble_eq_true rfl) dX7_listens_135 (fun H locs hP hD hS => ?_)
              have hP : va_P (dC, dI) vwCl [(m0, .inr (7, [.int (nI th), .int (nI tm), .int (nI ho), .int (nI li), .ref m1, .ref m2, .ref m3, .ref m4, .ref m5, .ref m6, .ref m7, .ref m8, .int (nI bn), .ref m9, .ref m10, .ref m11, .ref m12, .ref m13, .ref m14, .int (oI (some jf)), .int (nI sp.length), .ref m15, .int (oI (some jf)), .int (nI r9), .int (nI sv.length), .ref m16, .ref m17])), (m1, .inl (cZ, 6, .inl (cB he))), (m2, .inl (cZ, 6, .inl (cB mu))), (m3, .inl (cI, 6, .inl (cN lv))), (m15, .inl (cI, 6, .inl (cN spr)))] H := hP
              have hD : va_D A [(m0, .inr (7, [.int (nI th), .int (nI tm), .int (nI ho), .int (nI li), .ref m1, .ref m2, .ref m3, .ref m4, .ref m5, .ref m6, .ref m7, .ref m8, .int (nI bn), .ref m9, .ref m10, .ref m11, .ref m12, .ref m13, .ref m14, .int (oI (some jf)), .int (nI sp.length), .ref m15, .int (oI (some jf)), .int (nI r9), .int (nI sv.length), .ref m16, .ref m17])), (m1, .inl (cZ, 6, .inl (cB he))), (m2, .inl (cZ, 6, .inl (cB mu))), (m3, .inl (cI, 6, .inl (cN lv))), (m15, .inl (cI, 6, .inl (cN spr)))] := hD
              refine lv_aload_n hx hb dX7_listens_138 rfl (lv_at hl 0 rfl) ?_
              refine lv_iload_n hx hb dX7_listens_139 rfl (lv_at hl 1 rfl) ?_
              have hPc := hP.sub (ws' := [(m0, .inr (7, [.int (nI th), .int (nI tm), .int (nI ho), .int (nI li), .ref m1, .ref m2, .ref m3, .ref m4, .ref m5, .ref m6, .ref m7, .ref m8, .int (nI bn), .ref m9, .ref m10, .ref m11, .ref m12, .ref m13, .ref m14, .int (oI (some jf)), .int (nI sp.length), .ref m15, .int (oI (some jf)), .int (nI r9), .int (nI sv.length), .ref m16, .ref m17])), (m15, .inl (cI, 6, .inl (cN spr)))]) [0, 4] rfl
              have hDc := hD.sub (ws' := [(m0, .inr (7, [.int (nI th), .int (nI tm), .int (nI ho), .int (nI li), .ref m1, .ref m2, .ref m3, .ref m4, .ref m5, .ref m6, .ref m7, .ref m8, .int (nI bn), .ref m9, .ref m10, .ref m11, .ref m12, .ref m13, .ref m14, .int (oI (some jf)), .int (nI sp.length), .ref m15, .int (oI (some jf)), .int (nI r9), .int (nI sv.length), .ref m16, .ref m17])), (m15, .inl (cI, 6, .inl (cN spr)))]) [0, 4] (by decide) rfl
              have hFc := va_free (wc := [(m0, .inr (7, [.int (nI th), .int (nI tm), .int (nI ho), .int (nI li), .ref m1, .ref m2, .ref m3, .ref m4, .ref m5, .ref m6, .ref m7, .ref m8, .int (nI bn), .ref m9, .ref m10, .ref m11, .ref m12, .ref m13, .ref m14, .int (oI (some jf)), .int (nI sp.length), .ref m15, .int (oI (some jf)), .int (nI r9), .int (nI sv.length), .ref m16, .ref m17])), (m15, .inl (cI, 6, .inl (cN spr)))]) hD hS hA [0, 4] rfl
              have hq9_0 : lrep spr sp := by
                exact hsp
              have hq9_1 : jf < 2147483648 := by
                first | assumption | omega
              refine va_callv (va_runV (As := [.int (nI jf)]) (rest := []) ⟨hx, hb, hml, hown, hts⟩ (c_X7_unspeaks l dC dI cI cZ cG m0 m1 m2 m3 m4 m5 m6 m7 m8 m9 m10 m11 m12 m13 m14 m15 m16 m17 th tm ho li bn (some jf) sp (some jf) r9 sv spr jf H.size hq9_0 hq9_1) (cwV 1 hts gX7_listens_X7_unspeaks rfl rfl rfl (by decide +kernel) ⟨Nat.le_of_ble_eq_true rfl, Nat.le_of_ble_eq_true rfl⟩) ⟨fun a U g mk q => q_blind q, va_recv hK hPc (ci := 7) (q0 := 0) rfl rfl, fun U hU hW => ⟨rfl, by rw [hU], by rw [hU]; exact hPc, va_K.moved hW.alike hK, hDc.weaken (fun _ _ _ _ => trivial)⟩⟩ rfl rfl hl.1 rfl (lv_room (Nat.le_of_ble_eq_true rfl)) dX7_listens_140 ⟨by decide, by decide⟩) hS (fun q _ h => hFc q h) hFc (fun u t H1 locs ht hvm hw hB hz1 hk1 hS => ?_)
              obtain ⟨sprb, hs1, hP1, hD1⟩ := hB
              rw [ht] at hP1
              obtain ⟨hP, hD⟩ := va_join (wr := [(m1, .inl (cZ, 6, .inl (cB he))), (m2, .inl (cZ, 6, .inl (cB mu))), (m3, .inl (cI, 6, .inl (cN lv)))]) (w1 := [(m0, .inr (7, [.int (nI th), .int (nI tm), .int (nI ho), .int (nI li), .ref m1, .ref m2, .ref m3, .ref m4, .ref m5, .ref m6, .ref m7, .ref m8, .int (nI bn), .ref m9, .ref m10, .ref m11, .ref m12, .ref m13, .ref m14, .int (oI (some jf)), .int (nI ((dropL sp jf).length)), .ref m15, .int (oI (some jf)), .int (nI r9), .int (nI sv.length), .ref m16, .ref m17])), (m15, .inl (cI, 6, .inl (cN sprb)))]) hP hD [0, 4] [1, 2, 3] rfl rfl (by decide) (by decide) hk1 hFc hP1 hD1
              generalize H1 = H at hP hS ⊢
              have hP := hP.sub (ws' := [(m0, .inr (7, [.int (nI th), .int (nI tm), .int (nI ho), .int (nI li), .ref m1, .ref m2, .ref m3, .ref m4, .ref m5, .ref m6, .ref m7, .ref m8, .int (nI bn), .ref m9, .ref m10, .ref m11, .ref m12, .ref m13, .ref m14, .int (oI (some jf)), .int (nI ((dropL sp jf).length)), .ref m15, .int (oI (some jf)), .int (nI r9), .int (nI sv.length), .ref m16, .ref m17])), (m1, .inl (cZ, 6, .inl (cB he))), (m2, .inl (cZ, 6, .inl (cB mu))), (m3, .inl (cI, 6, .inl (cN lv))), (m15, .inl (cI, 6, .inl (cN sprb)))]) [3, 0, 1, 2, 4] rfl
              have hD := hD.sub (ws' := [(m0, .inr (7, [.int (nI th), .int (nI tm), .int (nI ho), .int (nI li), .ref m1, .ref m2, .ref m3, .ref m4, .ref m5, .ref m6, .ref m7, .ref m8, .int (nI bn), .ref m9, .ref m10, .ref m11, .ref m12, .ref m13, .ref m14, .int (oI (some jf)), .int (nI ((dropL sp jf).length)), .ref m15, .int (oI (some jf)), .int (nI r9), .int (nI sv.length), .ref m16, .ref m17])), (m1, .inl (cZ, 6, .inl (cB he))), (m2, .inl (cZ, 6, .inl (cB mu))), (m3, .inl (cI, 6, .inl (cN lv))), (m15, .inl (cI, 6, .inl (cN sprb)))]) [3, 0, 1, 2, 4] (by decide) rfl
              have hdl := hsp.1.drop_len hjf
              have hgd := hsp.1.drop jf
              refine lv_aload_n hx hb dX7_listens_143 rfl (lv_at hl 0 rfl) ?_
              refine va_get (D := (dC, dI)) (ci := 7) (v := .int (nI ((dropL sp jf).length))) (C := RX7) (T := TX7) (N := 27) hx hb hts (wX7_listens_X7_u) hown hK hP 0 rfl rfl 20 (by decide) (hts (.fieldLink RX7 89 "ConfroomModel" "spokeMany" "I") (wX7_listens_f89)) (fun _ h9 => h9) rfl dX7_listens_144 ?_
              refine lv_istore_n (lv' := [(2, .int (nI ((dropL sp jf).length))), (0, .ref m0), (1, .int (oI (some jf)))]) hx hb dX7_listens_147 rfl hl (by decide) rfl (fun ls hl => ?_)
              have L148 : ∀ (n : Nat) (k : Nat) (rw2 : Nat → Nat) (H : Heap) (locs : List Loc) (ls : Array Slot), (shiftI (dropL sp jf) rw2 k) → (k < n) → va_P (dC, dI) vwCl [(m0, .inr (7, [.int (nI th), .int (nI tm), .int (nI ho), .int (nI li), .ref m1, .ref m2, .ref m3, .ref m4, .ref m5, .ref m6, .ref m7, .ref m8, .int (nI bn), .ref m9, .ref m10, .ref m11, .ref m12, .ref m13, .ref m14, .int (oI (some jf)), .int (nI ((dropL sp jf).length)), .ref m15, .int (oI (some jf)), .int (nI r9), .int (nI sv.length), .ref m16, .ref m17])), (m1, .inl (cZ, 6, .inl (cB he))), (m2, .inl (cZ, 6, .inl (cB mu))), (m3, .inl (cI, 6, .inl (cN lv))), (m15, .inl (cI, 6, .inl (cN rw2)))] H → va_D A [(m0, .inr (7, [.int (nI th), .int (nI tm), .int (nI ho), .int (nI li), .ref m1, .ref m2, .ref m3, .ref m4, .ref m5, .ref m6, .ref m7, .ref m8, .int (nI bn), .ref m9, .ref m10, .ref m11, .ref m12, .ref m13, .ref m14, .int (oI (some jf)), .int (nI ((dropL sp jf).length)), .ref m15, .int (oI (some jf)), .int (nI r9), .int (nI sv.length), .ref m16, .ref m17])), (m1, .inl (cZ, 6, .inl (cB he))), (m2, .inl (cZ, 6, .inl (cB mu))), (m3, .inl (cI, 6, .inl (cN lv))), (m15, .inl (cI, 6, .inl (cN rw2)))] → va_S A s.heap H locs → lv_has ls 4 [(0, .ref m0), (1, .int (oI (some jf))), (2, .int (nI k))] → W p l e ({ frames := 1, cells := 0, slots := 0, locals := 23 } : Room) s m args below meth c H locs 0 0 Q (F0 m 148 ls []) := by
                intro n
                induction n with
                | zero =>
                  intro k rw2 H locs ls hs hm
                  exact absurd hm (Nat.not_lt_zero _)
                | succ n ih148 =>
                  intro k rw2 H locs ls hs hm hP hD hS hl
                  have hkl := hs.1
                  refine lv_iload_n hx hb dX7_listens_148 rfl (lv_at hl 2 rfl) ?_
                  refine q_0le (tgt := 172) hx hb (a := k) (by omega) dX7_listens_149 (by decide) (fun c149 => ?_) (fun c149 => ?_)
                  · refine lv_aload_n hx hb dX7_listens_172 rfl (lv_at hl 0 rfl) ?_
                    refine va_get (D := (dC, dI)) (ci := 7) (v := .ref m15) (C := RX7) (T := TX7) (N := 27) hx hb hts (wX7_listens_X7_u) hown hK hP 0 rfl rfl 21 (by decide) (hts (.fieldLink RX7 63 "ConfroomModel" "spoke" "[I") (wX7_listens_f63)) (fun _ h9 => h9) rfl dX7_listens_173 ?_
                    refine lv_iconst (v := nI 0) hx hb dX7_listens_176 (by decide) ?_
                    refine lv_iload_n hx hb dX7_listens_177 rfl (lv_at hl 1 rfl) ?_
                    refine q_sN hx hb hK hP hD hS 4 0 rfl rfl (k := 0) (x := jf) (by omega) (by decide) dX7_listens_178 (fun H locs hP hD hS => ?_)
                    have hP : va_P (dC, dI) vwCl [(m0, .inr (7, [.int (nI th), .int (nI tm), .int (nI ho), .int (nI li), .ref m1, .ref m2, .ref m3, .ref m4, .ref m5, .ref m6, .ref m7, .ref m8, .int (nI bn), .ref m9, .ref m10, .ref m11, .ref m12, .ref m13, .ref m14, .int (oI (some jf)), .int (nI ((dropL sp jf).length)), .ref m15, .int (oI (some jf)), .int (nI r9), .int (nI sv.length), .ref m16, .ref m17])), (m1, .inl (cZ, 6, .inl (cB he))), (m2, .inl (cZ, 6, .inl (cB mu))), (m3, .inl (cI, 6, .inl (cN lv))), (m15, .inl (cI, 6, .inl (cN (va_up rw2 0 jf))))] H := hP
                    have hD : va_D A [(m0, .inr (7, [.int (nI th), .int (nI tm), .int (nI ho), .int (nI li), .ref m1, .ref m2, .ref m3, .ref m4, .ref m5, .ref m6, .ref m7, .ref m8, .int (nI bn), .ref m9, .ref m10, .ref m11, .ref m12, .ref m13, .ref m14, .int (oI (some jf)), .int (nI ((dropL sp jf).length)), .ref m15, .int (oI (some jf)), .int (nI r9), .int (nI sv.length), .ref m16, .ref m17])), (m1, .inl (cZ, 6, .inl (cB he))), (m2, .inl (cZ, 6, .inl (cB mu))), (m3, .inl (cI, 6, .inl (cN lv))), (m15, .inl (cI, 6, .inl (cN (va_up rw2 0 jf))))] := hD
                    refine lv_aload_n hx hb dX7_listens_179 rfl (lv_at hl 0 rfl) ?_
                    refine lv_dup hx hb dX7_listens_180 rfl ?_
                    refine va_get (D := (dC, dI)) (ci := 7) (v := .int (nI ((dropL sp jf).length))) (C := RX7) (T := TX7) (N := 27) hx hb hts (wX7_listens_X7_u) hown hK hP 0 rfl rfl 20 (by decide) (hts (.fieldLink RX7 89 "ConfroomModel" "spokeMany" "I") (wX7_listens_f89)) (fun _ h9 => h9) rfl dX7_listens_181 ?_
                    refine lv_iconst (v := nI 1) hx hb dX7_listens_184 (by decide) ?_
                    refine lv_iadd hx hb dX7_listens_185 (q_as (nI_add ((dropL sp jf).length) 1) ?_)
                    refine va_put (D := (dC, dI)) (ci := 7) (v := .int (nI ((dropL sp jf).length + 1))) (ty := .int) (C := RX7) (T := TX7) (N := 27) hx hb hts (wX7_listens_X7_u) tyX7 tyX7_ok nmX7 hown hK hP hD hS 0 rfl rfl 20 (by decide) (hts (.fieldLink RX7 89 "ConfroomModel" "spokeMany" "I") (wX7_listens_f89)) (fun _ h9 => h9) rfl (by decide +kernel) rfl rfl (Nat.le_of_ble_eq_true rfl) dX7_listens_186 (fun H locs hP hD hS => ?_)
                    have hP : va_P (dC, dI) vwCl [(m0, .inr (7, [.int (nI th), .int (nI tm), .int (nI ho), .int (nI li), .ref m1, .ref m2, .ref m3, .ref m4, .ref m5, .ref m6, .ref m7, .ref m8, .int (nI bn), .ref m9, .ref m10, .ref m11, .ref m12, .ref m13, .ref m14, .int (oI (some jf)), .int (nI ((dropL sp jf).length + 1)), .ref m15, .int (oI (some jf)), .int (nI r9), .int (nI sv.length), .ref m16, .ref m17])), (m1, .inl (cZ, 6, .inl (cB he))), (m2, .inl (cZ, 6, .inl (cB mu))), (m3, .inl (cI, 6, .inl (cN lv))), (m15, .inl (cI, 6, .inl (cN (va_up rw2 0 jf))))] H := hP
                    have hD : va_D A [(m0, .inr (7, [.int (nI th), .int (nI tm), .int (nI ho), .int (nI li), .ref m1, .ref m2, .ref m3, .ref m4, .ref m5, .ref m6, .ref m7, .ref m8, .int (nI bn), .ref m9, .ref m10, .ref m11, .ref m12, .ref m13, .ref m14, .int (oI (some jf)), .int (nI ((dropL sp jf).length + 1)), .ref m15, .int (oI (some jf)), .int (nI r9), .int (nI sv.length), .ref m16, .ref m17])), (m1, .inl (cZ, 6, .inl (cB he))), (m2, .inl (cZ, 6, .inl (cB mu))), (m3, .inl (cI, 6, .inl (cN lv))), (m15, .inl (cI, 6, .inl (cN (va_up rw2 0 jf))))] := hD
                    have ec10 : ldF (loudF he mu lv) lo ld rn ho = some jf := by
                      rw [hfo]; first | (rw [c119]; rfl) | exact ldF_lt (by rw [hls]; omega) | exact ldF_ge (by rw [hls]; omega)
                    have ec11 : (spF (loudF he mu lv) lo rn ho sp).length = (dropL sp jf).length + 1 := by
                      rw [hfo]; first | (rw [c119]; rfl) | rw [spF_lt (by rw [hls]; omega)] | (rw [spF_ge (by rw [hls]; omega)]; rfl)
                    have ec12 : loudF he mu lv = some jf := by
                      exact hfo
                    have ec13 : rnF (loudF he mu lv) lo rn = r9 := by
                      rw [hfo]; exact hr9.symm
                    have hP : va_P (dC, dI) vwCl [(m0, .inr (7, [.int (nI th), .int (nI tm), .int (nI ho), .int (nI li), .ref m1, .ref m2, .ref m3, .ref m4, .ref m5, .ref m6, .ref m7, .ref m8, .int (nI bn), .ref m9, .ref m10, .ref m11, .ref m12, .ref m13, .ref m14, .int (oI (ldF (loudF he mu lv) lo ld rn ho)), .int (nI ((spF (loudF he mu lv) lo rn ho sp).length)), .ref m15, .int (oI (loudF he mu lv)), .int (nI (rnF (loudF he mu lv) lo rn)), .int (nI sv.length), .ref m16, .ref m17])), (m1, .inl (cZ, 6, .inl (cB he))), (m2, .inl (cZ, 6, .inl (cB mu))), (m3, .inl (cI, 6, .inl (cN lv))), (m15, .inl (cI, 6, .inl (cN (va_up rw2 0 jf))))] H := by
                      rw [ec11, ec10, ec13, ec12]
                      exact hP
                    have hD : va_D A [(m0, .inr (7, [.int (nI th), .int (nI tm), .int (nI ho), .int (nI li), .ref m1, .ref m2, .ref m3, .ref m4, .ref m5, .ref m6, .ref m7, .ref m8, .int (nI bn), .ref m9, .ref m10, .ref m11, .ref m12, .ref m13, .ref m14, .int (oI (ldF (loudF he mu lv) lo ld rn ho)), .int (nI ((spF (loudF he mu lv) lo rn ho sp).length)), .ref m15, .int (oI (loudF he mu lv)), .int (nI (rnF (loudF he mu lv) lo rn)), .int (nI sv.length), .ref m16, .ref m17])), (m1, .inl (cZ, 6, .inl (cB he))), (m2, .inl (cZ, 6, .inl (cB mu))), (m3, .inl (cI, 6, .inl (cN lv))), (m15, .inl (cI, 6, .inl (cN (va_up rw2 0 jf))))] := by
                      rw [ec11, ec10, ec13, ec12]
                      exact hD
                    refine kret 189 _ _ _ (va_up rw2 0 jf) ?_ dX7_listens_189 hP hD hS
                    · rw [hfo]; first | (rw [c119]; exact hsp) | (rw [spF_lt (by rw [hls]; omega)]; exact hsp) | (rw [spF_ge (by rw [hls]; omega)]; rw [show k = 0 by omega] at hs; exact shiftI_end hs hgd hjf (drop_notin _ _))
                  · refine lv_aload_n hx hb dX7_listens_152 rfl (lv_at hl 0 rfl) ?_
                    refine va_get (D := (dC, dI)) (ci := 7) (v := .ref m15) (C := RX7) (T := TX7) (N := 27) hx hb hts (wX7_listens_X7_u) hown hK hP 0 rfl rfl 21 (by decide) (hts (.fieldLink RX7 63 "ConfroomModel" "spoke" "[I") (wX7_listens_f63)) (fun _ h9 => h9) rfl dX7_listens_153 ?_
                    refine lv_iload_n hx hb dX7_listens_156 rfl (lv_at hl 2 rfl) ?_
                    refine lv_aload_n hx hb dX7_listens_157 rfl (lv_at hl 0 rfl) ?_
                    refine va_get (D := (dC, dI)) (ci := 7) (v := .ref m15) (C := RX7) (T := TX7) (N := 27) hx hb hts (wX7_listens_X7_u) hown hK hP 0 rfl rfl 21 (by decide) (hts (.fieldLink RX7 63 "ConfroomModel" "spoke" "[I") (wX7_listens_f63)) (fun _ h9 => h9) rfl dX7_listens_158 ?_
                    refine lv_iload_n hx hb dX7_listens_161 rfl (lv_at hl 2 rfl) ?_
                    refine lv_iconst (v := nI 1) hx hb dX7_listens_162 (by decide) ?_
                    refine lv_isub hx hb dX7_listens_163 (q_as (pk_sub (by omega)) ?_)
                    refine q_iN hx hb hK hP 4 0 rfl rfl (k := (k - 1)) (by omega) (by decide) dX7_listens_164 ?_
                    refine q_sN hx hb hK hP hD hS 4 0 rfl rfl (k := k) (x := (rw2 (k - 1))) (by omega) (by decide) dX7_listens_165 (fun H locs hP hD hS => ?_)
                    have hP : va_P (dC, dI) vwCl [(m0, .inr (7, [.int (nI th), .int (nI tm), .int (nI ho), .int (nI li), .ref m1, .ref m2, .ref m3, .ref m4, .ref m5, .ref m6, .ref m7, .ref m8, .int (nI bn), .ref m9, .ref m10, .ref m11, .ref m12, .ref m13, .ref m14, .int (oI (some jf)), .int (nI ((dropL sp jf).length)), .ref m15, .int (oI (some jf)), .int (nI r9), .int (nI sv.length), .ref m16, .ref m17])), (m1, .inl (cZ, 6, .inl (cB he))), (m2, .inl (cZ, 6, .inl (cB mu))), (m3, .inl (cI, 6, .inl (cN lv))), (m15, .inl (cI, 6, .inl (cN (va_up rw2 k (rw2 (k - 1))))))] H := hP
                    have hD : va_D A [(m0, .inr (7, [.int (nI th), .int (nI tm), .int (nI ho), .int (nI li), .ref m1, .ref m2, .ref m3, .ref m4, .ref m5, .ref m6, .ref m7, .ref m8, .int (nI bn), .ref m9, .ref m10, .ref m11, .ref m12, .ref m13, .ref m14, .int (oI (some jf)), .int (nI ((dropL sp jf).length)), .ref m15, .int (oI (some jf)), .int (nI r9), .int (nI sv.length), .ref m16, .ref m17])), (m1, .inl (cZ, 6, .inl (cB he))), (m2, .inl (cZ, 6, .inl (cB mu))), (m3, .inl (cI, 6, .inl (cN lv))), (m15, .inl (cI, 6, .inl (cN (va_up rw2 k (rw2 (k - 1))))))] := hD
                    refine lv_iinc (v := nI (k - 1)) (lv' := [(2, .int (nI (k - 1))), (0, .ref m0), (1, .int (oI (some jf)))]) hx hb dX7_listens_166 hl (k := 2) rfl (q_dec (by omega)) (by decide) rfl (fun ls hl => ?_)
                    refine lv_goto (tgt := 148) hx hb dX7_listens_169 (by decide) ?_
                    refine ih148 (k - 1) (va_up rw2 k (rw2 (k - 1))) _ _ _ ?_ (by omega) hP hD hS (lv_sub hl [1, 2, 0] rfl)
                    · exact shiftI_s hs (by omega)
              refine L148 _ ((dropL sp jf).length) sprb _ _ _ ?_ (Nat.lt_succ_self _) hP hD hS (lv_sub hl [1, 2, 0] rfl)
              · exact shiftI_0 hs1
        refine lv_aload_n hx hb dX7_listens_81 rfl (lv_at hl 0 rfl) ?_
        refine lv_iload_n hx hb dX7_listens_82 rfl (lv_at hl 1 rfl) ?_
        refine lv_iconst (v := oI none) hx hb dX7_listens_83 (by decide) ?_
        refine q_neOn (tgt := 91) hx hb (o := fo) (hfb2) dX7_listens_84 (by decide) (fun c84 => ?_) (fun c84 => ?_)
        · refine lv_iload_n hx hb dX7_listens_91 rfl (lv_at hl 1 rfl) ?_
          refine lv_aload_n hx hb dX7_listens_92 rfl (lv_at hl 0 rfl) ?_
          refine va_get (D := (dC, dI)) (ci := 7) (v := .int (oI lo)) (C := RX7) (T := TX7) (N := 27) hx hb hts (wX7_listens_X7_u) hown hK hP 0 rfl rfl 22 (by decide) (hts (.fieldLink RX7 66 "ConfroomModel" "loudest" "I") (wX7_listens_f66)) (fun _ h9 => h9) rfl dX7_listens_93 ?_
          refine q_neOO (tgt := 108) hx hb (o := fo) (o2 := lo) (by first | exact hfb2 | exact hlob) (by first | exact hfb2 | exact hlob) dX7_listens_96 (by decide) (fun c96 => ?_) (fun c96 => ?_)
          · refine lv_iconst (v := nI 1) hx hb dX7_listens_108 (by decide) ?_
            refine L109 1 _ _ _ ?_ hP hD hS (lv_sub hl [0, 1] rfl)
            · first | (rw [c84]; rfl) | exact rnF_y c84 c96 | exact rnF_n c84 c96
          · refine lv_aload_n hx hb dX7_listens_99 rfl (lv_at hl 0 rfl) ?_
            refine va_get (D := (dC, dI)) (ci := 7) (v := .int (nI rn)) (C := RX7) (T := TX7) (N := 27) hx hb hts (wX7_listens_X7_u) hown hK hP 0 rfl rfl 23 (by decide) (hts (.fieldLink RX7 113 "ConfroomModel" "run" "I") (wX7_listens_f113)) (fun _ h9 => h9) rfl dX7_listens_100 ?_
            refine lv_iconst (v := nI 1) hx hb dX7_listens_103 (by decide) ?_
            refine lv_iadd hx hb dX7_listens_104 (q_as (nI_add rn 1) ?_)
            refine lv_goto (tgt := 109) hx hb dX7_listens_105 (by decide) ?_
            refine L109 (rn + 1) _ _ _ ?_ hP hD hS (lv_sub hl [0, 1] rfl)
            · first | (rw [c84]; rfl) | exact rnF_y c84 c96 | exact rnF_n c84 c96
        · refine lv_iconst (v := nI 0) hx hb dX7_listens_87 (by decide) ?_
          refine lv_goto (tgt := 109) hx hb dX7_listens_88 (by decide) ?_
          refine L109 0 _ _ _ ?_ hP hD hS (lv_sub hl [0, 1] rfl)
          · first | (rw [c84]; rfl) | exact rnF_y c84 c96 | exact rnF_n c84 c96
      · have hfb : ∀ j, fo = some j → j < 2 ^ 31 := fun j hj => Nat.lt_trans (loudI_lt he mu lv i j (hf.trans hj)) (by omega)
        have L44 : ∀ (cn : Bool) (H : Heap) (locs : List Loc) (ls : Array Slot), ((he i && !mu i && decide (30 ≤ lv i)) = cn) → va_P (dC, dI) vwCl [(m0, .inr (7, [.int (nI th), .int (nI tm), .int (nI ho), .int (nI li), .ref m1, .ref m2, .ref m3, .ref m4, .ref m5, .ref m6, .ref m7, .ref m8, .int (nI bn), .ref m9, .ref m10, .ref m11, .ref m12, .ref m13, .ref m14, .int (oI ld), .int (nI sp.length), .ref m15, .int (oI lo), .int (nI rn), .int (nI sv.length), .ref m16, .ref m17])), (m1, .inl (cZ, 6, .inl (cB he))), (m2, .inl (cZ, 6, .inl (cB mu))), (m3, .inl (cI, 6, .inl (cN lv))), (m15, .inl (cI, 6, .inl (cN spr)))] H → va_D A [(m0, .inr (7, [.int (nI th), .int (nI tm), .int (nI ho), .int (nI li), .ref m1, .ref m2, .ref m3, .ref m4, .ref m5, .ref m6, .ref m7, .ref m8, .int (nI bn), .ref m9, .ref m10, .ref m11, .ref m12, .ref m13, .ref m14, .int (oI ld), .int (nI sp.length), .ref m15, .int (oI lo), .int (nI rn), .int (nI sv.length), .ref m16, .ref m17])), (m1, .inl (cZ, 6, .inl (cB he))), (m2, .inl (cZ, 6, .inl (cB mu))), (m3, .inl (cI, 6, .inl (cN lv))), (m15, .inl (cI, 6, .inl (cN spr)))] → va_S A s.heap H locs → lv_has ls 4 [(0, .ref m0), (1, .int (oI fo)), (2, .int (nI i))] → W p l e ({ frames := 1, cells := 0, slots := 0, locals := 23 } : Room) s m args below meth c H locs 0 0 Q (F0 m 44 ls [.int (bI cn)]) := by
          intro cn H locs ls hcn hP hD hS hl
          refine lv_istore_n (lv' := [(3, .int (bI cn)), (0, .ref m0), (1, .int (oI fo)), (2, .int (nI i))]) hx hb dX7_listens_44 rfl hl (by decide) rfl (fun ls hl => ?_)
          refine lv_iload_n hx hb dX7_listens_45 rfl (lv_at hl 0 rfl) ?_
          have L74 : ∀ (fo9 : Option Nat) (H : Heap) (locs : List Loc) (ls : Array Slot), ((loudI he mu lv (i + 1)).1 = fo9) → va_P (dC, dI) vwCl [(m0, .inr (7, [.int (nI th), .int (nI tm), .int (nI ho), .int (nI li), .ref m1, .ref m2, .ref m3, .ref m4, .ref m5, .ref m6, .ref m7, .ref m8, .int (nI bn), .ref m9, .ref m10, .ref m11, .ref m12, .ref m13, .ref m14, .int (oI ld), .int (nI sp.length), .ref m15, .int (oI lo), .int (nI rn), .int (nI sv.length), .ref m16, .ref m17])), (m1, .inl (cZ, 6, .inl (cB he))), (m2, .inl (cZ, 6, .inl (cB mu))), (m3, .inl (cI, 6, .inl (cN lv))), (m15, .inl (cI, 6, .inl (cN spr)))] H → va_D A [(m0, .inr (7, [.int (nI th), .int (nI tm), .int (nI ho), .int (nI li), .ref m1, .ref m2, .ref m3, .ref m4, .ref m5, .ref m6, .ref m7, .ref m8, .int (nI bn), .ref m9, .ref m10, .ref m11, .ref m12, .ref m13, .ref m14, .int (oI ld), .int (nI sp.length), .ref m15, .int (oI lo), .int (nI rn), .int (nI sv.length), .ref m16, .ref m17])), (m1, .inl (cZ, 6, .inl (cB he))), (m2, .inl (cZ, 6, .inl (cB mu))), (m3, .inl (cI, 6, .inl (cN lv))), (m15, .inl (cI, 6, .inl (cN spr)))] → va_S A s.heap H locs → lv_has ls 4 [(0, .ref m0), (2, .int (nI i))] → W p l e ({ frames := 1, cells := 0, slots := 0, locals := 23 } : Room) s m args below meth c H locs 0 0 Q (F0 m 74 ls [.int (oI fo9)]) := by
            intro fo9 H locs ls hf9 hP hD hS hl
            refine lv_istore_n (lv' := [(1, .int (oI fo9)), (0, .ref m0), (2, .int (nI i))]) hx hb dX7_listens_74 rfl hl (by decide) rfl (fun ls hl => ?_)
            refine lv_iinc (v := nI (i + 1)) (lv' := [(2, .int (nI (i + 1))), (1, .int (oI fo9)), (0, .ref m0)]) hx hb dX7_listens_75 hl (k := 2) rfl (q_inc i 1) (by decide) rfl (fun ls hl => ?_)
            refine lv_goto (tgt := 4) hx hb dX7_listens_78 (by decide) ?_
            refine ih4 (i + 1) fo9 _ _ _ ?_ ?_ (by omega) hP hD hS (lv_sub hl [2, 1, 0] rfl)
            · omega
            · exact hf9
          refine q_zeq (tgt := 73) hx hb (b := cn) dX7_listens_46 (by decide) (fun c46 => ?_) (fun c46 => ?_)
          · refine lv_iload_n hx hb dX7_listens_73 rfl (lv_at hl 2 rfl) ?_
            refine L74 fo _ _ _ ?_ hP hD hS (lv_sub hl [1, 3] rfl)
            · first | exact ldI_no (hcn.trans c46) hf | exact ldI_y0 (hcn.trans c46) (hf.trans c51) | exact ldI_y1 (hcn.trans c46) hf c66 | exact ldI_y2 hf c66
          · refine lv_iload_n hx hb dX7_listens_49 rfl (lv_at hl 2 rfl) ?_
            refine lv_iconst (v := oI none) hx hb dX7_listens_50 (by decide) ?_
            refine q_eqOn (tgt := 69) hx hb (o := fo) (hfb) dX7_listens_51 (by decide) (fun c51 => ?_) (fun c51 => ?_)
            · refine lv_iload_n hx hb dX7_listens_69 rfl (lv_at hl 3 rfl) ?_
              refine lv_goto (tgt := 74) hx hb dX7_listens_70 (by decide) ?_
              refine q_as (show nI i = oI (some i) from rfl) ?_
              refine L74 (some i) _ _ _ ?_ hP hD hS (lv_sub hl [1, 3] rfl)
              · first | exact ldI_no (hcn.trans c46) hf | exact ldI_y0 (hcn.trans c46) (hf.trans c51) | exact ldI_y1 (hcn.trans c46) hf c66 | exact ldI_y2 hf c66
            · obtain ⟨jt, rfl⟩ : ∃ j, fo = some j := Option.ne_none_iff_exists'.mp c51
              have hjt := loudI_lt he mu lv i jt hf
              refine lv_aload_n hx hb dX7_listens_54 rfl (lv_at hl 1 rfl) ?_
              refine va_get (D := (dC, dI)) (ci := 7) (v := .ref m3) (C := RX7) (T := TX7) (N := 27) hx hb hts (wX7_listens_X7_u) hown hK hP 0 rfl rfl 6 (by decide) (hts (.fieldLink RX7 23 "ConfroomModel" "levels" "[I") (wX7_listens_f23)) (fun _ h9 => h9) rfl dX7_listens_55 ?_
              refine lv_iload_n hx hb dX7_listens_58 rfl (lv_at hl 3 rfl) ?_
              refine q_iN hx hb hK hP 3 0 rfl rfl (k := i) (by omega) (by decide) dX7_listens_59 ?_
              have hv14 := hlv i
              refine lv_aload_n hx hb dX7_listens_60 rfl (lv_at hl 1 rfl) ?_
              refine va_get (D := (dC, dI)) (ci := 7) (v := .ref m3) (C := RX7) (T := TX7) (N := 27) hx hb hts (wX7_listens_X7_u) hown hK hP 0 rfl rfl 6 (by decide) (hts (.fieldLink RX7 23 "ConfroomModel" "levels" "[I") (wX7_listens_f23)) (fun _ h9 => h9) rfl dX7_listens_61 ?_
              refine lv_iload_n hx hb dX7_listens_64 rfl (lv_at hl 2 rfl) ?_
              refine q_iN hx hb hK hP 3 0 rfl rfl (k := jt) (by omega) (by decide) dX7_listens_65 ?_
              have hv15 := hlv jt
              refine q_le (tgt := 73) hx hb (a := (lv i)) (b := (lv jt)) (by omega) (by omega) dX7_listens_66 (by decide) (fun c66 => ?_) (fun c66 => ?_)
              · refine lv_iload_n hx hb dX7_listens_73 rfl (lv_at hl 2 rfl) ?_
                refine L74 (some jt) _ _ _ ?_ hP hD hS (lv_sub hl [1, 3] rfl)
                · first | exact ldI_no (hcn.trans c46) hf | exact ldI_y0 (hcn.trans c46) (hf.trans c51) | exact ldI_y1 (hcn.trans c46) hf c66 | exact ldI_y2 hf c66
              · refine lv_iload_n hx hb dX7_listens_69 rfl (lv_at hl 3 rfl) ?_
                refine lv_goto (tgt := 74) hx hb dX7_listens_70 (by decide) ?_
                refine q_as (show nI i = oI (some i) from rfl) ?_
                refine L74 (some i) _ _ _ ?_ hP hD hS (lv_sub hl [1, 3] rfl)
                · first | exact ldI_no (hcn.trans c46) hf | exact ldI_y0 (hcn.trans c46) (hf.trans c51) | exact ldI_y1 (hcn.trans c46) hf c66 | exact ldI_y2 hf c66
        refine lv_aload_n hx hb dX7_listens_10 rfl (lv_at hl 0 rfl) ?_
        refine va_get (D := (dC, dI)) (ci := 7) (v := .ref m1) (C := RX7) (T := TX7) (N := 27) hx hb hts (wX7_listens_X7_u) hown hK hP 0 rfl rfl 4 (by decide) (hts (.fieldLink RX7 16 "ConfroomModel" "isThere" "[Z") (wX7_listens_f16)) (fun _ h9 => h9) rfl dX7_listens_11 ?_
        refine lv_iload_n hx hb dX7_listens_14 rfl (lv_at hl 2 rfl) ?_
        refine q_zB hx hb hK hP 1 1 rfl rfl (k := i) (by omega) (by decide) dX7_listens_15 ?_
        refine q_zeq (tgt := 43) hx hb (b := (he i)) dX7_listens_16 (by decide) (fun c16 => ?_) (fun c16 => ?_)
        · refine lv_iconst (v := nI 0) hx hb dX7_listens_43 (by decide) ?_
          refine q_as (show nI 0 = bI false from rfl) ?_
          refine L44 false _ _ _ ?_ hP hD hS (lv_sub hl [0, 1, 2] rfl)
          · first | (rw [c16]; rfl) | (rw [c16, c25]; rfl) | (rw [c16, c25, decide_eq_false (by omega)]; rfl) | (rw [c16, c25, decide_eq_true (by omega)]; rfl)
        · refine lv_aload_n hx hb dX7_listens_19 rfl (lv_at hl 0 rfl) ?_
          refine va_get (D := (dC, dI)) (ci := 7) (v := .ref m2) (C := RX7) (T := TX7) (N := 27) hx hb hts (wX7_listens_X7_u) hown hK hP 0 rfl rfl 5 (by decide) (hts (.fieldLink RX7 20 "ConfroomModel" "isMuted" "[Z") (wX7_listens_f20)) (fun _ h9 => h9) rfl dX7_listens_20 ?_
          refine lv_iload_n hx hb dX7_listens_23 rfl (lv_at hl 2 rfl) ?_
          refine q_zB hx hb hK hP 2 1 rfl rfl (k := i) (by omega) (by decide) dX7_listens_24 ?_
          refine q_zne (tgt := 43) hx hb (b := (mu i)) dX7_listens_25 (by decide) (fun c25 => ?_) (fun c25 => ?_)
          · refine lv_iconst (v := nI 0) hx hb dX7_listens_43 (by decide) ?_
            refine q_as (show nI 0 = bI false from rfl) ?_
            refine L44 false _ _ _ ?_ hP hD hS (lv_sub hl [0, 1, 2] rfl)
            · first | (rw [c16]; rfl) | (rw [c16, c25]; rfl) | (rw [c16, c25, decide_eq_false (by omega)]; rfl) | (rw [c16, c25, decide_eq_true (by omega)]; rfl)
          · refine lv_aload_n hx hb dX7_listens_28 rfl (lv_at hl 0 rfl) ?_
            refine va_get (D := (dC, dI)) (ci := 7) (v := .ref m3) (C := RX7) (T := TX7) (N := 27) hx hb hts (wX7_listens_X7_u) hown hK hP 0 rfl rfl 6 (by decide) (hts (.fieldLink RX7 23 "ConfroomModel" "levels" "[I") (wX7_listens_f23)) (fun _ h9 => h9) rfl dX7_listens_29 ?_
            refine lv_iload_n hx hb dX7_listens_32 rfl (lv_at hl 2 rfl) ?_
            refine q_iN hx hb hK hP 3 0 rfl rfl (k := i) (by omega) (by decide) dX7_listens_33 ?_
            have hv16 := hlv i
            refine lv_bipush (v := nI 30) hx hb dX7_listens_34 (by decide) ?_
            refine q_lt (tgt := 43) hx hb (a := (lv i)) (b := 30) (by omega) (by omega) dX7_listens_36 (by decide) (fun c36 => ?_) (fun c36 => ?_)
            · refine lv_iconst (v := nI 0) hx hb dX7_listens_43 (by decide) ?_
              refine q_as (show nI 0 = bI false from rfl) ?_
              refine L44 false _ _ _ ?_ hP hD hS (lv_sub hl [0, 1, 2] rfl)
              · first | (rw [c16]; rfl) | (rw [c16, c25]; rfl) | (rw [c16, c25, decide_eq_false (by omega)]; rfl) | (rw [c16, c25, decide_eq_true (by omega)]; rfl)
            · refine lv_iconst (v := nI 1) hx hb dX7_listens_39 (by decide) ?_
              refine lv_goto (tgt := 44) hx hb dX7_listens_40 (by decide) ?_
              refine q_as (show nI 1 = bI true from rfl) ?_
              refine L44 true _ _ _ ?_ hP hD hS (lv_sub hl [0, 1, 2] rfl)
              · first | (rw [c16]; rfl) | (rw [c16, c25]; rfl) | (rw [c16, c25, decide_eq_false (by omega)]; rfl) | (rw [c16, c25, decide_eq_true (by omega)]; rfl)
  refine L4 _ 0 none _ _ _ ?_ ?_ (Nat.lt_succ_self _) hP hD hS (lv_sub hl [2, 1, 0] rfl)
  · omega
  · rfl

set_option maxHeartbeats 4000000 in
set_option maxRecDepth 100000 in
theorem c_X7_listens (l : Launch) (dC : Nat → ClassId) (dI : Nat → Nat → Nat) (cI cZ cG : ClassId) (m0 : Nat) (m1 : Nat) (m2 : Nat) (m3 : Nat) (m4 : Nat) (m5 : Nat) (m6 : Nat) (m7 : Nat) (m8 : Nat) (m9 : Nat) (m10 : Nat) (m11 : Nat) (m12 : Nat) (m13 : Nat) (m14 : Nat) (m15 : Nat) (m16 : Nat) (m17 : Nat) (th : Nat) (tm : Nat) (ho : Nat) (li : Nat) (bn : Nat) (ld : Option Nat) (sp : List Nat) (lo : Option Nat) (rn : Nat) (sv : List Nat) (he : Nat → Bool) (mu : Nat → Bool) (lv : Nat → Nat) (spr : Nat → Nat) (sz : Nat) (hlv : ∀ k, lv k ≤ 100) (hsp : lrep spr sp) (hlo : ∀ j, lo = some j → j < 6) (hrn : rn < 900000) (hho : ho ≤ 10) : Met l yX7_listens wsX7_listens ({ frames := 1, cells := 0, slots := 0, locals := 23 } : Room) (va_Pc [.ref m0] (fun U => U.heap.size = sz ∧ va_P (dC, dI) vwCl [(m0, .inr (7, [.int (nI th), .int (nI tm), .int (nI ho), .int (nI li), .ref m1, .ref m2, .ref m3, .ref m4, .ref m5, .ref m6, .ref m7, .ref m8, .int (nI bn), .ref m9, .ref m10, .ref m11, .ref m12, .ref m13, .ref m14, .int (oI ld), .int (nI sp.length), .ref m15, .int (oI lo), .int (nI rn), .int (nI sv.length), .ref m16, .ref m17])), (m1, .inl (cZ, 6, .inl (cB he))), (m2, .inl (cZ, 6, .inl (cB mu))), (m3, .inl (cI, 6, .inl (cN lv))), (m15, .inl (cI, 6, .inl (cN spr)))] U.heap ∧ va_K (dC, dI) vwCl [(cI, .int), (cZ, .boolean), (cG, .array .int)] U ∧ va_D (fun _ => True) [(m0, .inr (7, [.int (nI th), .int (nI tm), .int (nI ho), .int (nI li), .ref m1, .ref m2, .ref m3, .ref m4, .ref m5, .ref m6, .ref m7, .ref m8, .int (nI bn), .ref m9, .ref m10, .ref m11, .ref m12, .ref m13, .ref m14, .int (oI ld), .int (nI sp.length), .ref m15, .int (oI lo), .int (nI rn), .int (nI sv.length), .ref m16, .ref m17])), (m1, .inl (cZ, 6, .inl (cB he))), (m2, .inl (cZ, 6, .inl (cB mu))), (m3, .inl (cI, 6, .inl (cN lv))), (m15, .inl (cI, 6, .inl (cN spr)))])) (va_Qv (fun (_ : Unit) => True) (fun (_ : Unit) t => ∃ (spr9 : Nat → Nat), (lrep spr9 (spF (loudF he mu lv) lo rn ho sp)) ∧ va_P (dC, dI) vwCl [(m0, .inr (7, [.int (nI th), .int (nI tm), .int (nI ho), .int (nI li), .ref m1, .ref m2, .ref m3, .ref m4, .ref m5, .ref m6, .ref m7, .ref m8, .int (nI bn), .ref m9, .ref m10, .ref m11, .ref m12, .ref m13, .ref m14, .int (oI (ldF (loudF he mu lv) lo ld rn ho)), .int (nI ((spF (loudF he mu lv) lo rn ho sp).length)), .ref m15, .int (oI (loudF he mu lv)), .int (nI (rnF (loudF he mu lv) lo rn)), .int (nI sv.length), .ref m16, .ref m17])), (m1, .inl (cZ, 6, .inl (cB he))), (m2, .inl (cZ, 6, .inl (cB mu))), (m3, .inl (cI, 6, .inl (cN lv))), (m15, .inl (cI, 6, .inl (cN spr9)))] t.heap ∧ va_D (va_A [(m0, .inr (7, [.int (nI th), .int (nI tm), .int (nI ho), .int (nI li), .ref m1, .ref m2, .ref m3, .ref m4, .ref m5, .ref m6, .ref m7, .ref m8, .int (nI bn), .ref m9, .ref m10, .ref m11, .ref m12, .ref m13, .ref m14, .int (oI ld), .int (nI sp.length), .ref m15, .int (oI lo), .int (nI rn), .int (nI sv.length), .ref m16, .ref m17])), (m1, .inl (cZ, 6, .inl (cB he))), (m2, .inl (cZ, 6, .inl (cB mu))), (m3, .inl (cI, 6, .inl (cN lv))), (m15, .inl (cI, 6, .inl (cN spr)))] sz) [(m0, .inr (7, [.int (nI th), .int (nI tm), .int (nI ho), .int (nI li), .ref m1, .ref m2, .ref m3, .ref m4, .ref m5, .ref m6, .ref m7, .ref m8, .int (nI bn), .ref m9, .ref m10, .ref m11, .ref m12, .ref m13, .ref m14, .int (oI (ldF (loudF he mu lv) lo ld rn ho)), .int (nI ((spF (loudF he mu lv) lo rn ho sp).length)), .ref m15, .int (oI (loudF he mu lv)), .int (nI (rnF (loudF he mu lv) lo rn)), .int (nI sv.length), .ref m16, .ref m17])), (m1, .inl (cZ, 6, .inl (cB he))), (m2, .inl (cZ, 6, .inl (cB mu))), (m3, .inl (cI, 6, .inl (cN lv))), (m15, .inl (cI, 6, .inl (cN spr9)))]) (va_A [(m0, .inr (7, [.int (nI th), .int (nI tm), .int (nI ho), .int (nI li), .ref m1, .ref m2, .ref m3, .ref m4, .ref m5, .ref m6, .ref m7, .ref m8, .int (nI bn), .ref m9, .ref m10, .ref m11, .ref m12, .ref m13, .ref m14, .int (oI ld), .int (nI sp.length), .ref m15, .int (oI lo), .int (nI rn), .int (nI sv.length), .ref m16, .ref m17])), (m1, .inl (cZ, 6, .inl (cB he))), (m2, .inl (cZ, 6, .inl (cB mu))), (m3, .inl (cI, 6, .inl (cN lv))), (m15, .inl (cI, 6, .inl (cN spr)))] sz)) 0 0 (va_A [(m0, .inr (7, [.int (nI th), .int (nI tm), .int (nI ho), .int (nI li), .ref m1, .ref m2, .ref m3, .ref m4, .ref m5, .ref m6, .ref m7, .ref m8, .int (nI bn), .ref m9, .ref m10, .ref m11, .ref m12, .ref m13, .ref m14, .int (oI ld), .int (nI sp.length), .ref m15, .int (oI lo), .int (nI rn), .int (nI sv.length), .ref m16, .ref m17])), (m1, .inl (cZ, 6, .inl (cB he))), (m2, .inl (cZ, 6, .inl (cB mu))), (m3, .inl (cI, 6, .inl (cN lv))), (m15, .inl (cI, 6, .inl (cN spr)))] sz) := by
  refine Met.ofW (cc := cX7_listens) (maxL := 4) (ret := none) (by decide) rfl ?_
  intro p e s m args below meth c s₁ B hml hv
  obtain ⟨rfl, hsz, hP, hK, hD0⟩ := hv
  have hts := atoms_spec (ws := wsX7_listens) B.pre
  have hown : s.vm.findClass RX7 = some m.cls := findClass_of_methodNamed B.named
  have hlocks := B.notSynchronized
  subst hsz
  have hD := hD0.self (sz := s.heap.size)
  have hA : ∀ q : Nat, s.heap.size ≤ q → va_A [(m0, .inr (7, [.int (nI th), .int (nI tm), .int (nI ho), .int (nI li), .ref m1, .ref m2, .ref m3, .ref m4, .ref m5, .ref m6, .ref m7, .ref m8, .int (nI bn), .ref m9, .ref m10, .ref m11, .ref m12, .ref m13, .ref m14, .int (oI ld), .int (nI sp.length), .ref m15, .int (oI lo), .int (nI rn), .int (nI sv.length), .ref m16, .ref m17])), (m1, .inl (cZ, 6, .inl (cB he))), (m2, .inl (cZ, 6, .inl (cB mu))), (m3, .inl (cI, 6, .inl (cN lv))), (m15, .inl (cI, 6, .inl (cN spr)))] s.heap.size q := fun q h => Or.inr h
  have hl := lv_entry ([.ref m0]) (n := 4) (Nat.le_of_ble_eq_true rfl)
  rw [lg_entry_eq]
  generalize (lg_sl ([.ref m0]) ++ List.replicate (4 - (lg_sl ([.ref m0])).length) Slot.unset).toArray = ls at hl ⊢
  have hl : lv_has ls 4 [(0, .ref m0)] := hl
  have hx := B.exec
  have hb := B.bytes
  exact b_X7_listens hx hb hml hown hts hK hA m0 m1 m2 m3 m4 m5 m6 m7 m8 m9 m10 m11 m12 m13 m14 m15 m16 m17 th tm ho li bn ld sp lo rn sv he mu lv spr hlv hsp hlo hrn hho  hP hD va_S.rf hl (fun pcr H locs ls spr9 hp0 hd hP hD hS => W.vret hx hb B.returns (fun t ht hW => ⟨⟨(), rfl, trivial, spr9, hp0, by rw [ht]; exact hP, hD⟩, hS.F ht⟩) hS.2.2 hd)
