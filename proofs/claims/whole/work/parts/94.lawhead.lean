theorem and31 (x : Int32) : ∃ k, k < 32 ∧ x &&& nI 31 = nI k := by
  refine ⟨(x &&& nI 31).toBitVec.toNat, ?_, ?_⟩
  · rw [Int32.toBitVec_and, BitVec.toNat_and]
    exact Nat.lt_of_le_of_lt Nat.and_le_right (by decide)
  · apply Int32.toBitVec_inj.mp
    show _ = BitVec.ofNat 32 _
    rw [BitVec.ofNat_toNat, BitVec.setWidth_eq]
theorem law_le {i L : Nat} (hi : i ≤ 2048) (hL : L ≤ 2048) (h : ¬ (nI L - nI 4 < nI i)) : i + 4 ≤ L := by
  rw [Int32.lt_iff_toInt_lt, pk_sub_toInt (by omega) (by omega), nI_toInt (by omega)] at h
  omega
section
variable {p : Program} {l : Launch} {e : Env} {s : State} {m : MethodId} {args : Array Value} {below : List Frame} {meth : Method} {c : Code} {Q : State → Prop} {A : Nat → Prop} {dC : Nat → ClassId} {dI : Nat → Nat → Nat} {cI : ClassId} {cZ : ClassId} {cG : ClassId} {cJ : ClassId} {c0 : Nat} {f0 : Nat} {t0 : Nat} {w0 : Nat} {v0 : Nat} {g0 : Nat} {k0 : Nat} {f1 : Nat} {f2 : Nat} {f3 : Nat} {s0 : Nat} {s1 : Nat} {t1 : Nat} {t2 : Nat} {t3 : Nat} {t4 : Nat} {t5 : Nat} {u0 : Nat} {u1 : Nat} {w1 : Nat} {w2 : Nat} {w3 : Nat} {v1 : Nat} {g1 : Nat} {k1 : Nat} {k2 : Nat} {m0 : Nat} {m1 : Nat} {m2 : Nat} {m3 : Nat} {m4 : Nat} {m5 : Nat} {m6 : Nat} {m7 : Nat} {m8 : Nat} {m9 : Nat} {m10 : Nat} {m11 : Nat} {m12 : Nat} {m13 : Nat} {m14 : Nat} {m15 : Nat} {m16 : Nat} {m17 : Nat} {o0 : Nat} {ra : Nat → Nat} {rt : Nat → Nat} {b L : Nat} {xs : Nat → Int32}
set_option maxHeartbeats 8000000 in
set_option maxRecDepth 100000 in
theorem law_head (hSt : lawS p l s m args c A dC dI cI cZ cG cJ b L xs) (hend : ∀ (kC kS : Nat) (H : Heap) (locs : List Loc) (ls : Array Slot), kC ≤ 674457 → kS ≤ 7072733 → va_S A s.heap H locs → W p l e room_1 s m args below meth c H locs kC kS Q (F0 m 1303 ls [])) : ∀ (n i kC kS : Nat) (he mu : Nat → Bool) (lv pl es ba se : Nat → Nat) (pn : Nat → Option Nat) (pur : Nat → Nat) (pu : List Nat) (spr : Nat → Nat) (sp : List Nat) (spm : Nat → Nat) (ho li : Nat) (ld lo : Option Nat) (ls1 rn ck bn : Nat) (ta la : Nat → Nat → Nat) (kc : Nat → Nat) (ak : Nat → Bool) (lk : Nat → Nat) (on : Nat → Bool) (bg ly vwr : Nat → Nat) (vw : List Nat) (rs : Nat) (gi : Nat → Nat) (th : Nat) (svr : Nat → Nat) (sv : List Nat) (tg : Nat → Nat) (oj : Nat → Int64) (H : Heap) (locs : List Loc) (ls : Array Slot), L - i < n → i ≤ L → kC ≤ 57 + i → kS ≤ 369 + 6 * i → lawI i he lv pl es ba se pn pur pu spr sp spm ho li ld lo ls1 rn ck bn ta la kc ak lk on bg ly → va_P (dC, dI) vwCl (lawW cI cZ cG cJ c0 f0 t0 w0 v0 g0 k0 ck f1 f2 f3 s0 ld ho lo ls1 he lv mu s1 sp spr t1 t2 t3 t4 u0 li t5 ba se kc ak lk u1 pu pur w1 w2 w3 pl es pn v1 vw vwr g1 rs gi k1 k2 ra la rt ta m0 th m1 m2 m3 m4 m5 m6 m7 m8 bn m9 m10 m11 m12 m13 m14 m15 rn sv m16 m17 on bg spm svr tg ly o0 oj) H → va_D A (lawW cI cZ cG cJ c0 f0 t0 w0 v0 g0 k0 ck f1 f2 f3 s0 ld ho lo ls1 he lv mu s1 sp spr t1 t2 t3 t4 u0 li t5 ba se kc ak lk u1 pu pur w1 w2 w3 pl es pn v1 vw vwr g1 rs gi k1 k2 ra la rt ta m0 th m1 m2 m3 m4 m5 m6 m7 m8 bn m9 m10 m11 m12 m13 m14 m15 rn sv m16 m17 on bg spm svr tg ly o0 oj) → va_S A s.heap H locs → lv_has ls 7 [(0, .ref b), (1, .ref c0), (2, .ref m0), (3, .ref o0), (4, .int (nI i))] → W p l e room_1 s m args below meth c H locs kC kS Q (F0 m 23 ls []) := by
  obtain ⟨hx, hb, hml, hown, hts, hK, hA, hX, hY, hnt, hXs, hbl, hbA, hL⟩ := id hSt
  intro n
  induction n with
  | zero =>
    intro i kC kS he mu lv pl es ba se pn pur pu spr sp spm ho li ld lo ls1 rn ck bn ta la kc ak lk on bg ly vwr vw rs gi th svr sv tg oj H locs ls hm
    exact absurd hm (Nat.not_lt_zero _)
  | succ n ih =>
    intro i kC kS he mu lv pl es ba se pn pur pu spr sp spm ho li ld lo ls1 rn ck bn ta la kc ak lk on bg ly vwr vw rs gi th svr sv tg oj H locs ls hm hiL hkC hkS hI hP hD hS hl
    refine lv_iload hx hb dL_law_23 (lv_at hl 4 rfl) ?_
    refine lv_aload_n hx hb dL_law_25 rfl (lv_at hl 0 rfl) ?_
    refine va_slen hx hb hXs hbl hbA hS dL_law_26 ?_
    refine lv_iconst (v := nI 4) hx hb dL_law_27 (by decide) ?_
    refine lv_isub hx hb dL_law_28 ?_
    refine lv_icmp_gt (tgt := 1303) hx hb dL_law_29 (by decide) (fun c1 => ?_) (fun c1 => ?_)
    · exact hend _ _ _ _ _ (by omega) (by omega) hS
    · have hi : i + 4 ≤ L := law_le (by omega) hL c1
      have hback : lawB p l e s m args below meth c Q A dC dI cI cZ cG cJ c0 f0 t0 w0 v0 g0 k0 f1 f2 f3 s0 s1 t1 t2 t3 t4 t5 u0 u1 w1 w2 w3 v1 g1 k1 k2 m0 m1 m2 m3 m4 m5 m6 m7 m8 m9 m10 m11 m12 m13 m14 m15 m16 m17 o0 ra rt b i kC kS := by
        intro he mu lv pl es ba se pn pur pu spr sp spm ho li ld lo ls1 rn ck bn ta la kc ak lk on bg ly vwr vw rs gi th svr sv tg oj H locs ls hI hP hD hS hl
        refine lv_iinc (v := nI (i + 4)) (lv' := [(4, .int (nI (i + 4))), (0, .ref b), (1, .ref c0), (2, .ref m0), (3, .ref o0)]) hx hb dL_law_1297 hl (k := 4) rfl (q_inc i 4) (by decide) rfl (fun ls hl => ?_)
        refine lv_goto (tgt := 23) hx hb dL_law_1300 (by decide) ?_
        exact ih (i + 4) (kC + 3) (kS + 18) he mu lv pl es ba se pn pur pu spr sp spm ho li ld lo ls1 rn ck bn ta la kc ak lk on bg ly vwr vw rs gi th svr sv tg oj H locs ls (by omega) (by omega) (by omega) (by omega) hI hP hD hS (lv_sub hl [1, 2, 3, 4, 0] rfl)
      have hkC9 : kC ≤ 600000 := by omega
      have hkS9 : kS ≤ 6000000 := by omega
      refine lv_aload_n hx hb dL_law_32 rfl (lv_at hl 0 rfl) ?_
      refine lv_iload hx hb dL_law_33 (lv_at hl 4 rfl) ?_
      refine q_sld hx hb hXs hbl hbA hS (by omega) hL (r := xs i) rfl dL_law_35 ?_
      refine lv_bipush (v := nI 31) hx hb dL_law_36 (by decide) ?_
      refine lv_iand hx hb dL_law_38 ?_
      obtain ⟨k, hk, ek⟩ := and31 (xs i)
      rw [ek]
      by_cases h22 : 22 ≤ k
      · refine lv_tableOut (tgt := 1297) hx hb dL_law_39 (Or.inr (by rw [nI_toInt (by omega)]; omega)) (by decide) ?_
        refine W.widen (k := kC + 3) (n := kS + 18) (by omega) (by omega) ?_
        exact hback he mu lv pl es ba se pn pur pu spr sp spm ho li ld lo ls1 rn ck bn ta la kc ak lk on bg ly vwr vw rs gi th svr sv tg oj _ _ _ (I_next hI) hP hD hS hl
      · have h6 : k = 0 ∨ k = 1 ∨ k = 2 ∨ k = 3 ∨ k = 4 ∨ k = 5 ∨ k = 6 ∨ k = 7 ∨ k = 8 ∨ k = 9 ∨ k = 10 ∨ k = 11 ∨ k = 12 ∨ k = 13 ∨ k = 14 ∨ k = 15 ∨ k = 16 ∨ k = 17 ∨ k = 18 ∨ k = 19 ∨ k = 20 ∨ k = 21 := by omega
        rcases h6 with rfl | rfl | rfl | rfl | rfl | rfl | rfl | rfl | rfl | rfl | rfl | rfl | rfl | rfl | rfl | rfl | rfl | rfl | rfl | rfl | rfl | rfl
        · exact lv_tableIn (off := 101) (tgt := 140) hx hb dL_law_39 (by decide) (by decide) rfl (by decide) (d_join hSt hi hkC9 hkS9 hI hP hD hS hl hback)
        · exact lv_tableIn (off := 145) (tgt := 184) hx hb dL_law_39 (by decide) (by decide) rfl (by decide) (d_leave hSt hi hkC9 hkS9 hI hP hD hS hl hback)
        · exact lv_tableIn (off := 181) (tgt := 220) hx hb dL_law_39 (by decide) (by decide) rfl (by decide) (d_publish hSt hi hkC9 hkS9 hI hP hD hS hl hback)
        · exact lv_tableIn (off := 241) (tgt := 280) hx hb dL_law_39 (by decide) (by decide) rfl (by decide) (d_end hSt hi hkC9 hkS9 hI hP hD hS hl hback)
        · exact lv_tableIn (off := 277) (tgt := 316) hx hb dL_law_39 (by decide) (by decide) rfl (by decide) (d_mute hSt hi hkC9 hkS9 hI hP hD hS hl hback)
        · exact lv_tableIn (off := 340) (tgt := 379) hx hb dL_law_39 (by decide) (by decide) rfl (by decide) (d_setLevel hSt hi hkC9 hkS9 hI hP hD hS hl hback)
        · exact lv_tableIn (off := 408) (tgt := 447) hx hb dL_law_39 (by decide) (by decide) rfl (by decide) (d_people hSt hi hkC9 hkS9 hI hP hD hS hl hback)
        · exact lv_tableIn (off := 421) (tgt := 460) hx hb dL_law_39 (by decide) (by decide) rfl (by decide) (d_pin hSt hi hkC9 hkS9 hI hP hD hS hl hback)
        · exact lv_tableIn (off := 489) (tgt := 528) hx hb dL_law_39 (by decide) (by decide) rfl (by decide) (d_setPlaces hSt hi hkC9 hkS9 hI hP hD hS hl hback)
        · exact lv_tableIn (off := 557) (tgt := 596) hx hb dL_law_39 (by decide) (by decide) rfl (by decide) (d_setEstimate hSt hi hkC9 hkS9 hI hP hD hS hl hback)
        · exact lv_tableIn (off := 625) (tgt := 664) hx hb dL_law_39 (by decide) (by decide) rfl (by decide) (d_setTimes hSt hi hkC9 hkS9 hI hP hD hS hl hback)
        · exact lv_tableIn (off := 673) (tgt := 712) hx hb dL_law_39 (by decide) (by decide) rfl (by decide) (d_pass hSt hi hkC9 hkS9 hI hP hD hS hl hback)
        · exact lv_tableIn (off := 729) (tgt := 768) hx hb dL_law_39 (by decide) (by decide) rfl (by decide) (d_now hSt hi hkC9 hkS9 hI hP hD hS hl hback)
        · exact lv_tableIn (off := 742) (tgt := 781) hx hb dL_law_39 (by decide) (by decide) rfl (by decide) (d_speaker hSt hi hkC9 hkS9 hI hP hD hS hl hback)
        · exact lv_tableIn (off := 755) (tgt := 794) hx hb dL_law_39 (by decide) (by decide) rfl (by decide) (d_seen hSt hi hkC9 hkS9 hI hP hD hS hl hback)
        · exact lv_tableIn (off := 811) (tgt := 850) hx hb dL_law_39 (by decide) (by decide) rfl (by decide) (d_seenAt hSt hi hkC9 hkS9 hI hP hD hS hl hback)
        · exact lv_tableIn (off := 879) (tgt := 918) hx hb dL_law_39 (by decide) (by decide) rfl (by decide) (d_target hSt hi hkC9 hkS9 hI hP hD hS hl hback)
        · exact lv_tableIn (off := 947) (tgt := 986) hx hb dL_law_39 (by decide) (by decide) rfl (by decide) (d_targetBySteps hSt hi hkC9 hkS9 hI hP hD hS hl hback)
        · exact lv_tableIn (off := 1015) (tgt := 1054) hx hb dL_law_39 (by decide) (by decide) rfl (by decide) (d_layer hSt hi hkC9 hkS9 hI hP hD hS hl hback)
        · exact lv_tableIn (off := 1083) (tgt := 1122) hx hb dL_law_39 (by decide) (by decide) rfl (by decide) (d_sent hSt hi hkC9 hkS9 hI hP hD hS hl hback)
        · exact lv_tableIn (off := 1139) (tgt := 1178) hx hb dL_law_39 (by decide) (by decide) rfl (by decide) (d_keys hSt hi hkC9 hkS9 hI hP hD hS hl hback)
        · exact lv_tableIn (off := 1195) (tgt := 1234) hx hb dL_law_39 (by decide) (by decide) rfl (by decide) (d_isAsked hSt hi hkC9 hkS9 hI hP hD hS hl hback)
end
