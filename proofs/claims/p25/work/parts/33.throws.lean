/-! what a throw of the class asks of the world: kept along calls -/
def isCDW (w : Cond) : Bool := match w with
  | .castable _ _ => true
  | .declares _ => true
  | _ => false
theorem cd_warm {w : Cond} (h : isCDW w = true) {s U : State} (hW : s.WarmedH U.vm) (hZ : va_Nw w s) : va_Nw w U := by
  cases w <;> first | exact va_Nw.warmC hW hZ | exact va_Nw.warmD hW hZ | (simp [isCDW] at h; done)
theorem cd_same {w : Cond} (h : isCDW w = true) {u U : State} (hv : u.vm = U.vm) (hZ : va_Nw w u) : va_Nw w U := by
  cases w <;> first | exact va_Nw.same rfl hv hZ | (simp [isCDW] at h; done)
theorem cd_use {w : Cond} (h : isCDW w = true) {A : Array Value} {U : State} (hZ : va_Nw w U) : w.before A U = true := by
  cases w <;> first | exact va_Nw.use rfl hZ | (simp [isCDW] at h; done)
theorem cd_of {w : Cond} (h : isCDW w = true) {A : Array Value} {U : State} (hZ : w.before A U = true) : va_Nw w U := by
  cases w <;> first | exact va_Nw.of rfl hZ | (simp [isCDW] at h; done)
def xNm : List String := ["java/lang/RuntimeException", "java/lang/Exception"]
def eNS : String := "java/util/NoSuchElementException"
def eIS : String := "java/lang/IllegalStateException"
def eIA : String := "java/lang/IllegalArgumentException"
def eIO : String := "java/lang/IndexOutOfBoundsException"
/-- the words of a throw: the kit's, but for NoSuchElementException (025.nse) -/
def xAt (ic : Nat) (X : String) : List Cond := if X = eNS then nseAt else vx_atS RX6 ic X xNm
def xLs (ic : Nat) (X : String) : List Cond := (xAt ic X).filter (fun w => !goodWord w)
def xW (ic : Nat) (X : String) (U : State) : Prop := ∀ w ∈ xLs ic X, va_Nw w U
def xS (ix : Nat) (tx : String) (U : State) : Prop := ∃ a, vk_R RX6 ix tx a U
theorem xLs_IS : ∀ w ∈ xLs 63 eIS, isCDW w = true := by decide +kernel
theorem xLs_NS : ∀ w ∈ xLs 181 eNS, isCDW w = true := by decide +kernel
theorem xLs_IA : ∀ w ∈ xLs 113 eIA, isCDW w = true := by decide +kernel
theorem xLs_IO : ∀ w ∈ xLs 145 eIO, isCDW w = true := by decide +kernel
theorem xg_IS : ∀ w ∈ Cond.classLink RX6 59 eIS :: Cond.initialized eIS :: xAt 63 eIS, vx_ot w = true := by decide +kernel
theorem xg_NS : ∀ w ∈ Cond.classLink RX6 177 eNS :: Cond.initialized eNS :: xAt 181 eNS, vx_ot w = true := by decide +kernel
theorem xg_IA : ∀ w ∈ Cond.classLink RX6 109 eIA :: Cond.initialized eIA :: xAt 113 eIA, vx_ot w = true := by decide +kernel
theorem xg_IO : ∀ w ∈ Cond.classLink RX6 141 eIO :: Cond.initialized eIO :: xAt 145 eIO, vx_ot w = true := by decide +kernel
def XBt (U : State) : Prop := (xS 61 "there are 6 people" U ∧ xS 111 "a receiver can't pin itself" U ∧ xS 143 "no stream is seen in this place" U ∧ xS 179 "no such person" U ∧ xS 188 "no stream is published" U ∧ xS 190 "a value is out of range" U) ∧ xW 63 eIS U ∧ xW 181 eNS U ∧ xW 113 eIA U ∧ xW 145 eIO U
def XB (A : Nat → Prop) (U : State) : Prop := XBt U ∧ vx_Zq Bundle.tN "UNASSIGNED_STACK" Bundle.steD A U U.heap ∧ vx_Zq Bundle.tN "SUPPRESSED_SENTINEL" Bundle.listD A U U.heap
theorem xS.warm {ix : Nat} {tx : String} {s U : State} (hW : s.WarmedH U.vm) (h : xS ix tx s) : xS ix tx U := by
  obtain ⟨a, h⟩ := h
  exact ⟨a, vk_R.warm hW h⟩
theorem xS.same {ix : Nat} {tx : String} {u U : State} (hv : U.vm = u.vm) (h : xS ix tx u) : xS ix tx U := by
  obtain ⟨a, h⟩ := h
  exact ⟨a, vk_R.same hv h⟩
theorem xW.warm {ic : Nat} {X : String} (hc : ∀ w ∈ xLs ic X, isCDW w = true) {s U : State} (hW : s.WarmedH U.vm) (h : xW ic X s) : xW ic X U := fun w hw => cd_warm (hc w hw) hW (h w hw)
theorem xW.same {ic : Nat} {X : String} (hc : ∀ w ∈ xLs ic X, isCDW w = true) {u U : State} (hv : u.vm = U.vm) (h : xW ic X u) : xW ic X U := fun w hw => cd_same (hc w hw) hv (h w hw)
theorem XBt.warm {s U : State} (hW : s.WarmedH U.vm) (h : XBt s) : XBt U := by
  obtain ⟨⟨a1, a2, a3, a4, a5, a6⟩, b1, b2, b3, b4⟩ := h
  exact ⟨⟨a1.warm hW, a2.warm hW, a3.warm hW, a4.warm hW, a5.warm hW, a6.warm hW⟩, xW.warm xLs_IS hW b1, xW.warm xLs_NS hW b2, xW.warm xLs_IA hW b3, xW.warm xLs_IO hW b4⟩
theorem XBt.same {u U : State} (hv : u.vm = U.vm) (h : XBt u) : XBt U := by
  obtain ⟨⟨a1, a2, a3, a4, a5, a6⟩, b1, b2, b3, b4⟩ := h
  exact ⟨⟨a1.same hv.symm, a2.same hv.symm, a3.same hv.symm, a4.same hv.symm, a5.same hv.symm, a6.same hv.symm⟩, xW.same xLs_IS hv b1, xW.same xLs_NS hv b2, xW.same xLs_IA hv b3, xW.same xLs_IO hv b4⟩
theorem XB.call {A A2 : Nat → Prop} {s U : State} {H : Heap} {locs : List Loc} (h : XB A s) (hS : va_S A s.heap H locs) (hf : ∀ q, A2 q → A q) (hU : U.heap = H) (hW : s.WarmedH U.vm) : XB A2 U := by
  obtain ⟨h1, h2, h3⟩ := h
  exact ⟨h1.warm hW, by rw [hU]; exact vx_Zq.narrow (vx_Zq.moved hW.alike (h2.kept hS.2.1)) hf, by rw [hU]; exact vx_Zq.narrow (vx_Zq.moved hW.alike (h3.kept hS.2.1)) hf⟩
theorem XB.same {A : Nat → Prop} {u U : State} (hv : u.vm = U.vm) (hh : u.heap = U.heap) (h : XB A u) : XB A U := by
  obtain ⟨h1, h2, h3⟩ := h
  exact ⟨h1.same hv, by rw [← hh]; exact vx_Zq.moved (by rw [hv]; exact Vm.Alike.refl _) h2, by rw [← hh]; exact vx_Zq.moved (by rw [hv]; exact Vm.Alike.refl _) h3⟩
theorem q_blind1 {sz : Nat} {av : List Value} {D : va_G} {cl : List vw_C} {ws : va_W} {A : Nat → Prop} {tys : List (ClassId × FieldType)} {a : Array Value} {U : State} {g : JFrame} {mk : MethodId} (q : va_Pc av (fun U => U.heap.size = sz ∧ va_P D cl ws U.heap ∧ va_K D cl tys U ∧ va_D (fun _ => True) ws ∧ XB A U) a U) : va_Pc av (fun U => U.heap.size = sz ∧ va_P D cl ws U.heap ∧ va_K D cl tys U ∧ va_D (fun _ => True) ws ∧ XB A U) a (U.calling g mk a) := by
  obtain ⟨q0, q1, qP, qK, qD, qX⟩ := q
  exact ⟨q0, q1, qP, va_K.moved (u := U) (U := U.calling g mk a) (Vm.Alike.refl U.vm) qK, qD, XB.same (u := U) (U := U.calling g mk a) rfl rfl qX⟩
section QT
variable {p : Program} {l : Launch} {e : Env} {R : Room} {s : State} {m : MethodId} {args : Array Value} {below : List Frame} {meth : Method} {c : Code} {H : Heap} {locs : List Loc} {cells slots : Nat}
theorem q_throw {Qc : Array Value → State → Outcome → State → Prop} {XC : String → State → State → Prop} {free : Addr → Prop} {ls : Array Slot} {cc : ByteArray} {pc : Nat} (hexec : p.tables.exec = Jvm.exec) (hb : c.code = cc) (hl : l.stackTraces = false) {cls text : String} {ik is ic mc ms : Nat} {A : Nat → Prop} {Ts : List Cond} (hts : ∀ w ∈ Ts, w.before args s = true)
    (hown : s.vm.findClass RX6 = some m.cls) (hcls : Bundle.fit cls = true) (hk : Cond.classLink RX6 ik cls ∈ Ts) (hini : Cond.initialized cls ∈ Ts) (hstr : xS is text s) (hin : ∀ w ∈ (xAt ic cls).filter goodWord, w ∈ Ts) (hcd : ∀ w ∈ xLs ic cls, isCDW w = true) (hxw : xW ic cls s)
    (hgood : ∀ w ∈ Cond.classLink RX6 ik cls :: Cond.initialized cls :: xAt ic cls, vx_ot w = true) (hX : XB A s) (hS : va_S A s.heap H locs) (hsize : ls.size = c.maxLocals)
    (d0 : decode cc pc = .ok (.new ik, 3)) (d3 : decode cc (pc + 3) = .ok (.dup, 1)) (d4 : decode cc (pc + 4) = .ok (.ldc is, 2)) (d6 : decode cc (pc + 6) = .ok (.invokespecial ic, 3)) (d9 : decode cc (pc + 9) = .ok (.athrow, 1))
    (hout : ∀ x ∈ c.exceptionTable.toList, False) (hRf : 5 < R.frames) (hRl : 82 ≤ R.locals) (hRc : cells + 1 ≤ R.cells) (hRs : slots + 6 ≤ R.slots) (hlocks : meth.locks = false)
    (hx : ∀ t : State, s.vm.Alike t.vm → H.size ≤ t.heap.size → (∀ q : Nat, q < H.size → t.heap[q]? = H[q]?) → XC cls s t)
    (hf : ∀ z ∈ locs, free z.base) (hc : cells + 1 ≤ mc) (hs : slots + 6 ≤ ms) (hic : cls = eNS → ik = 177 ∧ ic = 181) :
    W p l e R s m args below meth c H locs cells slots (vx_MQ below Qc XC args s mc ms free) (F0 m pc ls []) := by
  obtain ⟨sa, hsa⟩ := hstr
  by_cases hns : cls = eNS
  · subst hns
    obtain ⟨e1, e2⟩ := hic rfl
    subst e1
    subst e2
    have e3 : xAt 181 eNS = nseAt := if_pos rfl
    rw [e3] at hin hgood
    exact vx_throwNS hexec hb hl hown (hts _ hk) (hts _ hini) hsa (vx_hat (B := xLs 181 eNS) (fun w hw => hts w (hin w hw)) (fun w hw => by unfold xLs; rw [e3]; exact hw) (fun w hw => cd_use (hcd w hw) (hxw w hw))) hgood hX.2.1 hX.2.2 hS hsize d0 d3 d4 d6 d9 (fun x hx => (hout x hx).elim) hRf hRl hRc hRs hlocks hx hf hc hs
  · have e3 : xAt ic cls = vx_atS RX6 ic cls xNm := if_neg hns
    rw [e3] at hin hgood
    exact vx_throwS hexec hb hl hown hcls (fun n hn => by
      simp only [xNm, List.mem_cons, List.not_mem_nil, or_false] at hn
      rcases hn with rfl | rfl <;> decide) (hts _ hk) (hts _ hini) hsa (vx_hat (B := xLs ic cls) (fun w hw => hts w (hin w hw)) (fun w hw => by unfold xLs; rw [e3]; exact hw) (fun w hw => cd_use (hcd w hw) (hxw w hw))) hgood hX.2.1 hX.2.2 hS hsize d0 d3 d4 d6 d9 (fun x hx => (hout x hx).elim) hRf hRl hRc hRs hlocks hx hf hc hs
end QT
/-- the throw's world: nothing old was written by the throw itself -/
theorem q_kept {D : va_G} {cl : List vw_C} {ws : va_W} {H H1 : Heap} (h : va_P D cl ws H) (hk : ∀ q : Nat, q < H.size → H1[q]? = H[q]?) : va_P D cl ws H1 := h.kept (fun k q hq => hk q.1 (h k q hq).lt)
theorem q_F {A : Nat → Prop} {s t : State} {H : Heap} {locs : List Loc} (h : va_S A s.heap H locs) (hz : H.size ≤ t.heap.size) (hk : ∀ q : Nat, q < H.size → t.heap[q]? = H[q]?) : va_F A s t := ⟨Nat.le_trans h.1 hz, fun q h1 h2 => by rw [hk q (Nat.lt_of_lt_of_le h1 h.1)]; exact h.2.1 q h1 h2⟩
def inR (v lo hi : Int32) : Bool := decide (¬ v < lo) && decide (v ≤ hi)
theorem inR_n1 {v lo hi : Int32} (h : v < lo) : inR v lo hi = false := by simp [inR, h]
theorem inR_n2 {v lo hi : Int32} (h : ¬ v ≤ hi) : inR v lo hi = false := by simp [inR, h]
theorem inR_y {v lo hi : Int32} (h : ¬ v < lo) (h2 : v ≤ hi) : inR v lo hi = true := by simp [inR, h, h2]
theorem inR_of {v : Int32} {a b : Nat} (ha : a < 2 ^ 31) (hb : b < 2 ^ 31) (h : inR v (nI a) (nI b) = true) : ∃ j, a ≤ j ∧ j ≤ b ∧ v = nI j := by
  simp only [inR, Bool.and_eq_true, decide_eq_true_eq] at h
  obtain ⟨h1, h2⟩ := h
  have h3 : ¬ v < 0 := fun q => h1 (by
    have h4 : (0 : Int32) ≤ nI a := nI_pos' ha
    simp only [Int32.lt_iff_toInt_lt, Int32.le_iff_toInt_le] at *
    omega)
  obtain ⟨j, hj, rfl⟩ := nI_of h3
  exact ⟨j, Nat.le_of_not_lt fun q => h1 ((nI_ltI hj ha).mpr q), (nI_leI hj hb).mp h2, rfl⟩
theorem inR_nI {j a b : Nat} (hj : j < 2 ^ 31) (ha : a < 2 ^ 31) (hb : b < 2 ^ 31) : inR (nI j) (nI a) (nI b) = (decide (a ≤ j) && decide (j ≤ b)) := by
  simp only [inR, nI_ltI hj ha, nI_leI hj hb, Nat.not_lt]
theorem freeS_lt {he : Nat → Bool} {j : Nat} (h : freeS he = some j) : j < 6 ∧ he j = false := by
  by_cases h6 : ∀ k, k < 6 → he k = true
  · rw [freeS_none h6] at h; cases h
  · obtain ⟨k, hk, hf, hl⟩ : ∃ k, k < 6 ∧ he k = false ∧ ∀ i, i < k → he i = true := by
      by_cases h0 : he 0 = false
      · exact ⟨0, by omega, h0, fun i hi => by omega⟩
      by_cases h1 : he 1 = false
      · exact ⟨1, by omega, h1, fun i hi => by rw [show i = 0 by omega]; simpa using h0⟩
      by_cases h2 : he 2 = false
      · exact ⟨2, by omega, h2, fun i hi => by rcases (show i = 0 ∨ i = 1 by omega) with rfl | rfl <;> simp_all⟩
      by_cases h3 : he 3 = false
      · exact ⟨3, by omega, h3, fun i hi => by rcases (show i = 0 ∨ i = 1 ∨ i = 2 by omega) with rfl | rfl | rfl <;> simp_all⟩
      by_cases h4 : he 4 = false
      · exact ⟨4, by omega, h4, fun i hi => by rcases (show i = 0 ∨ i = 1 ∨ i = 2 ∨ i = 3 by omega) with rfl | rfl | rfl | rfl <;> simp_all⟩
      by_cases h5 : he 5 = false
      · exact ⟨5, by omega, h5, fun i hi => by rcases (show i = 0 ∨ i = 1 ∨ i = 2 ∨ i = 3 ∨ i = 4 by omega) with rfl | rfl | rfl | rfl | rfl <;> simp_all⟩
      exact absurd (fun k hk => by rcases (show k = 0 ∨ k = 1 ∨ k = 2 ∨ k = 3 ∨ k = 4 ∨ k = 5 by omega) with rfl | rfl | rfl | rfl | rfl | rfl <;> simp_all) h6
    rw [freeS_some hk hl hf] at h
    cases h
    exact ⟨hk, hf⟩
theorem drop_drop (L : List Nat) (j : Nat) : dropL (dropL L j) j = dropL L j := by
  unfold dropL
  rw [List.filter_filter]
  congr 1
  funext x
  simp
