-- what the tables and the Statement's start give
theorem arr_known {s : State} {args : Array Value} {ty : FieldType} (h : (Cond.arrayClass ty).before args s = true) (hr : ∀ cA : ClassId, s.vm.findClass ("[" ++ ty.toString) = some cA → va_RA s cA ty) : ∃ cA : ClassId, ArrOfT s cA ty ∧ va_RA s cA ty := by
  obtain ⟨c, k, comp, h1, h2, h3⟩ := Cond.arrayClass_spec (args := args) (first := s) (o := none) (idx := []) h
  exact ⟨c, fun n z => ⟨fun k h => (by cases h), k, h2, comp, h3⟩, hr c h1⟩
theorem grid_known {s : State} {args : Array Value} (h : (Cond.arrayOver (.array .int)).before args s = true) : ∃ cA : ClassId, ArrOfT s cA (.array .int) ∧ va_RA s cA (.array .int) := by
  obtain ⟨comp, c, k, h1, h2, h3, h4, h5⟩ := arrayOverA_spec h
  exact ⟨c, fun n z => ⟨fun k h => (by cases h), k, h3, comp, h4⟩, h5⟩
theorem st_i0 : Cond.instantiable RX0 8 ∈ lw_tbl := by decide +kernel
theorem st_i1 : Cond.instantiable RX1 2 ∈ lw_tbl := by decide +kernel
theorem st_i2 : Cond.instantiable RX2 2 ∈ lw_tbl := by decide +kernel
theorem st_i3 : Cond.instantiable RX3 2 ∈ lw_tbl := by decide +kernel
theorem st_i4 : Cond.instantiable RX4 7 ∈ lw_tbl := by decide +kernel
theorem st_i5 : Cond.instantiable RX5 3 ∈ lw_tbl := by decide +kernel
theorem st_i6 : Cond.instantiable RX6 7 ∈ lw_tbl := by decide +kernel
theorem st_i7 : Cond.instantiable RX7 27 ∈ lw_tbl := by decide +kernel
theorem st_aI : Cond.arrayClass .int ∈ lw_tbl := by decide +kernel
theorem st_aZ : Cond.arrayClass .boolean ∈ lw_tbl := by decide +kernel
theorem st_aG : Cond.arrayOver (.array .int) ∈ lw_tbl := by decide +kernel
set_option maxRecDepth 20000 in
theorem start_K {s : State} {args : Array Value} (hts0 : ∀ w ∈ lw_tbl, w.before args s = true) : ∃ (dC : Nat → ClassId) (dI : Nat → Nat → Nat) (cI cZ cG : ClassId), va_K (dC, dI) vwCl [(cI, .int), (cZ, .boolean), (cG, .array .int)] s := by
  have hts : ∀ w ∈ wsL_law, w.before args s = true := fun w h => hts0 w (wsL_law_in w h)
  obtain ⟨c0, i0, k0⟩ := u_known (C := RX0) (T := TX0) (N := 8) (n := 8) hts inlX0 (hts0 _ st_i0)
  obtain ⟨c1, i1, k1⟩ := u_known (C := RX1) (T := TX1) (N := 2) (n := 2) hts inlX1 (hts0 _ st_i1)
  obtain ⟨c2, i2, k2⟩ := u_known (C := RX2) (T := TX2) (N := 2) (n := 2) hts inlX2 (hts0 _ st_i2)
  obtain ⟨c3, i3, k3⟩ := u_known (C := RX3) (T := TX3) (N := 2) (n := 2) hts inlX3 (hts0 _ st_i3)
  obtain ⟨c4, i4, k4⟩ := u_known (C := RX4) (T := TX4) (N := 7) (n := 7) hts inlX4 (hts0 _ st_i4)
  obtain ⟨c5, i5, k5⟩ := u_known (C := RX5) (T := TX5) (N := 3) (n := 3) hts inlX5 (hts0 _ st_i5)
  obtain ⟨c6, i6, k6⟩ := u_known (C := RX6) (T := TX6) (N := 7) (n := 7) hts inlX6 (hts0 _ st_i6)
  obtain ⟨c7, i7, k7⟩ := u_known (C := RX7) (T := TX7) (N := 27) (n := 27) hts inlX7 (hts0 _ st_i7)
  obtain ⟨cI, aI, rI⟩ := arr_known (ty := .int) (hts0 _ st_aI) (fun _ h => h)
  obtain ⟨cZ, aZ, rZ⟩ := arr_known (ty := .boolean) (hts0 _ st_aZ) (fun _ h => h)
  obtain ⟨cG, aG, rG⟩ := grid_known (hts0 _ st_aG)
  refine ⟨fun k => match k with | 0 => c0 | 1 => c1 | 2 => c2 | 3 => c3 | 4 => c4 | 5 => c5 | 6 => c6 | _ => c7, fun k => match k with | 0 => i0 | 1 => i1 | 2 => i2 | 3 => i3 | 4 => i4 | 5 => i5 | 6 => i6 | _ => i7, cI, cZ, cG, ?_, ?_⟩
  · intro k q hq
    match k, hq with
    | 0, hq => cases hq; exact k0
    | 1, hq => cases hq; exact k1
    | 2, hq => cases hq; exact k2
    | 3, hq => cases hq; exact k3
    | 4, hq => cases hq; exact k4
    | 5, hq => cases hq; exact k5
    | 6, hq => cases hq; exact k6
    | 7, hq => cases hq; exact k7
    | k + 8, hq => simp [vwCl] at hq
  · intro k q hq
    match k, hq with
    | 0, hq => cases hq; exact ⟨aI, rI⟩
    | 1, hq => cases hq; exact ⟨aZ, rZ⟩
    | 2, hq => cases hq; exact ⟨aG, rG⟩
    | k + 3, hq => simp at hq
theorem st_ceNS : Cond.castable eNS eNS ∈ lw_tbl := by decide +kernel
theorem st_ceIS : Cond.castable eIS eIS ∈ lw_tbl := by decide +kernel
theorem st_ceIA : Cond.castable eIA eIA ∈ lw_tbl := by decide +kernel
theorem st_ceIO : Cond.castable eIO eIO ∈ lw_tbl := by decide +kernel
theorem st_n0 : Cond.methodLinkNest RX0 24 yX1_init RX6 ∈ lw_tbl := by decide +kernel
theorem st_n1 : Cond.methodLinkNest RX4 27 yX1_init RX6 ∈ lw_tbl := by decide +kernel
theorem st_n2 : Cond.methodLinkNest RX6 9 yX0_init RX6 ∈ lw_tbl := by decide +kernel
theorem st_n3 : Cond.methodLinkNest RX6 18 yX4_init RX6 ∈ lw_tbl := by decide +kernel
theorem st_n4 : Cond.methodLinkNest RX6 25 yX5_init RX6 ∈ lw_tbl := by decide +kernel
theorem st_n5 : Cond.methodLinkNest RX6 32 yX1_init RX6 ∈ lw_tbl := by decide +kernel
theorem st_n6 : Cond.methodLinkNest RX6 39 yX3_init RX6 ∈ lw_tbl := by decide +kernel
theorem st_n7 : Cond.methodLinkNest RX6 46 yX2_init RX6 ∈ lw_tbl := by decide +kernel
theorem st_deIS : Cond.not (.castable eIS eNS) ∈ flatC (Jvm.Cond.and given_1 narrow_1) := by decide +kernel
theorem st_deIA : Cond.not (.castable eIA eNS) ∈ flatC (Jvm.Cond.and given_1 narrow_1) := by decide +kernel
theorem st_deIO : Cond.not (.castable eIO eNS) ∈ flatC (Jvm.Cond.and given_1 narrow_1) := by decide +kernel
theorem start_L {s : State} {args : Array Value} (hts0 : ∀ w ∈ lw_tbl, w.before args s = true) (hgv : (Jvm.Cond.and given_1 narrow_1).before args s = true) : XL s ∧ nX6 s := by
  have hs := flat_of_before _ hgv
  exact ⟨⟨cd_of rfl (hts0 _ st_ceNS), cd_of rfl (hts0 _ st_ceIS), cd_of rfl (hts0 _ st_ceIA), cd_of rfl (hts0 _ st_ceIO), va_Nc.of (args := args) (hs _ st_deIS), va_Nc.of (args := args) (hs _ st_deIA), va_Nc.of (args := args) (hs _ st_deIO)⟩, va_Nw.of rfl (hts0 _ st_n0), va_Nw.of rfl (hts0 _ st_n1), va_AOA.of (hts0 _ st_aG), va_Nw.of rfl (hts0 _ st_n2), va_Nw.of rfl (hts0 _ st_n3), va_Nw.of rfl (hts0 _ st_n4), va_Nw.of rfl (hts0 _ st_n5), va_Nw.of rfl (hts0 _ st_n6), va_Nw.of rfl (hts0 _ st_n7)⟩
theorem st_s61 : Cond.stringRef RX6 61 "there are 6 people" ∈ lw_tbl := by decide +kernel
theorem st_x61 : Cond.exactly (.string RX6 61) "java/lang/String" ∈ flatC (Jvm.Cond.and given_1 narrow_1) := by decide +kernel
theorem st_s111 : Cond.stringRef RX6 111 "a receiver can't pin itself" ∈ lw_tbl := by decide +kernel
theorem st_x111 : Cond.exactly (.string RX6 111) "java/lang/String" ∈ flatC (Jvm.Cond.and given_1 narrow_1) := by decide +kernel
theorem st_s143 : Cond.stringRef RX6 143 "no stream is seen in this place" ∈ lw_tbl := by decide +kernel
theorem st_x143 : Cond.exactly (.string RX6 143) "java/lang/String" ∈ flatC (Jvm.Cond.and given_1 narrow_1) := by decide +kernel
theorem st_s179 : Cond.stringRef RX6 179 "no such person" ∈ lw_tbl := by decide +kernel
theorem st_x179 : Cond.exactly (.string RX6 179) "java/lang/String" ∈ flatC (Jvm.Cond.and given_1 narrow_1) := by decide +kernel
theorem st_s188 : Cond.stringRef RX6 188 "no stream is published" ∈ lw_tbl := by decide +kernel
theorem st_x188 : Cond.exactly (.string RX6 188) "java/lang/String" ∈ flatC (Jvm.Cond.and given_1 narrow_1) := by decide +kernel
theorem st_s190 : Cond.stringRef RX6 190 "a value is out of range" ∈ lw_tbl := by decide +kernel
theorem st_x190 : Cond.exactly (.string RX6 190) "java/lang/String" ∈ flatC (Jvm.Cond.and given_1 narrow_1) := by decide +kernel
theorem st_wIS : ∀ w ∈ xLs 63 eIS, w ∈ lw_tbl := by decide +kernel
theorem st_wNS : ∀ w ∈ xLs 181 eNS, w ∈ lw_tbl := by decide +kernel
theorem st_wIA : ∀ w ∈ xLs 113 eIA, w ∈ lw_tbl := by decide +kernel
theorem st_wIO : ∀ w ∈ xLs 145 eIO, w ∈ lw_tbl := by decide +kernel
theorem st_lsteD : Cond.laysStatic Bundle.tN "UNASSIGNED_STACK" Bundle.steD ∈ lw_tbl := by decide +kernel
theorem st_rsteD : Cond.isRef (.static Bundle.tN "UNASSIGNED_STACK" Bundle.steD) ∈ flatC (Jvm.Cond.and given_1 narrow_1) := by decide +kernel
theorem st_llistD : Cond.laysStatic Bundle.tN "SUPPRESSED_SENTINEL" Bundle.listD ∈ lw_tbl := by decide +kernel
theorem st_rlistD : Cond.isRef (.static Bundle.tN "SUPPRESSED_SENTINEL" Bundle.listD) ∈ flatC (Jvm.Cond.and given_1 narrow_1) := by decide +kernel
theorem st_tN : Cond.initialized Bundle.tN ∈ lw_tbl := by decide +kernel
theorem str_known {s : State} {args : Array Value} {k : Nat} {tx : String} (h1 : (Cond.stringRef RX6 k tx).before args s = true) (h2 : (Cond.exactly (.string RX6 k) "java/lang/String").before args s = true) : xS k tx s := by
  obtain ⟨a, c, cA, kA, q1, -⟩ := Cond.exactly_spec (args := args) (first := s) (o := none) (s := s) (idx := []) (t := .string RX6 k) (cls := "java/lang/String") h2
  exact ⟨a, vk_R.of h1 q1⟩
theorem start_X {s : State} {args : Array Value} {A : Nat → Prop} (hts0 : ∀ w ∈ lw_tbl, w.before args s = true) (hgv : (Jvm.Cond.and given_1 narrow_1).before args s = true) (hA : ∀ a : Nat, a < s.heap.size → ¬ A a) : XB A s := by
  have hs := flat_of_before _ hgv
  exact ⟨⟨⟨str_known (hts0 _ st_s61) (hs _ st_x61), str_known (hts0 _ st_s111) (hs _ st_x111), str_known (hts0 _ st_s143) (hs _ st_x143), str_known (hts0 _ st_s179) (hs _ st_x179), str_known (hts0 _ st_s188) (hs _ st_x188), str_known (hts0 _ st_s190) (hs _ st_x190)⟩, fun w hw => cd_of (xLs_IS w hw) (hts0 w (st_wIS w hw)), fun w hw => cd_of (xLs_NS w hw) (hts0 w (st_wNS w hw)), fun w hw => cd_of (xLs_IA w hw) (hts0 w (st_wIA w hw)), fun w hw => cd_of (xLs_IO w hw) (hts0 w (st_wIO w hw))⟩, vx_Zqof (hts0 _ st_lsteD) (hts0 _ st_tN) (hs _ st_rsteD) hA, vx_Zqof (hts0 _ st_llistD) (hts0 _ st_tN) (hs _ st_rlistD) hA⟩
