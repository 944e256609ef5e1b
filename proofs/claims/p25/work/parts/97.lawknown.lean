-- what the tables and the Statement's start give
theorem arr_known {s : State} {args : Array Value} {ty : FieldType} (h : (Cond.arrayClass ty).before args s = true) (hr : ∀ cA : ClassId, s.vm.findClass ("[" ++ ty.toString) = some cA → va_RA s cA ty) : ∃ cA : ClassId, ArrOfT s cA ty ∧ va_RA s cA ty := by
  obtain ⟨c, k, comp, h1, h2, h3⟩ := Cond.arrayClass_spec (args := args) (first := s) (o := none) (idx := []) h
  exact ⟨c, fun n z => ⟨fun k h => (by cases h), k, h2, comp, h3⟩, hr c h1⟩
theorem grid_known {s : State} {args : Array Value} (h : (Cond.arrayOver (.array .int)).before args s = true) : ∃ cA : ClassId, ArrOfT s cA (.array .int) ∧ va_RA s cA (.array .int) := by
  obtain ⟨comp, c, k, h1, h2, h3, h4, h5⟩ := arrayOverA_spec h
  exact ⟨c, fun n z => ⟨fun k h => (by cases h), k, h3, comp, h4⟩, h5⟩
theorem st_i0 : Cond.instantiable RX0 8 ∈ lw_tbl := by decide +kernel
theorem st_i1 : Cond.instantiable RX1 2 ∈ lw_tbl := by decide +kernel
theorem st_i2 : Cond.instantiable RX2 2 ∈ lw_tbl := by decide +kernel
theorem st_i3 : Cond.instantiable RX3 2 ∈ lw_tbl := by decide +kernel
theorem st_i4 : Cond.instantiable RX4 7 ∈ lw_tbl := by decide +kernel
theorem st_i5 : Cond.instantiable RX5 3 ∈ lw_tbl := by decide +kernel
theorem st_i6 : Cond.instantiable RX6 7 ∈ lw_tbl := by decide +kernel
theorem st_aI : Cond.arrayClass .int ∈ lw_tbl := by decide +kernel
theorem st_aZ : Cond.arrayClass .boolean ∈ lw_tbl := by decide +kernel
theorem st_aG : Cond.arrayOver (.array .int) ∈ lw_tbl := by decide +kernel
set_option maxRecDepth 20000 in
theorem start_K {s : State} {args : Array Value} (hts0 : ∀ w ∈ lw_tbl, w.before args s = true) : ∃ (dC : Nat → ClassId) (dI : Nat → Nat → Nat) (cI cZ cG : ClassId), va_K (dC, dI) vwCl [(cI, .int), (cZ, .boolean), (cG, .array .int)] s := by
  have hts : ∀ w ∈ wsL_law, w.before args s = true := fun w h => hts0 w (wsL_law_in w h)
  obtain ⟨c0, i0, k0⟩ := u_known (C := RX0) (T := TX0) (N := 8) (n := 8) hts inlX0 (hts0 _ st_i0)
  obtain ⟨c1, i1, k1⟩ := u_known (C := RX1) (T := TX1) (N := 2) (n := 2) hts inlX1 (hts0 _ st_i1)
  obtain ⟨c2, i2, k2⟩ := u_known (C := RX2) (T := TX2) (N := 2) (n := 2) hts inlX2 (hts0 _ st_i2)
  obtain ⟨c3, i3, k3⟩ := u_known (C := RX3) (T := TX3) (N := 2) (n := 2) hts inlX3 (hts0 _ st_i3)
  obtain ⟨c4, i4, k4⟩ := u_known (C := RX4) (T := TX4) (N := 7) (n := 7) hts inlX4 (hts0 _ st_i4)
  obtain ⟨c5, i5, k5⟩ := u_known (C := RX5) (T := TX5) (N := 3) (n := 3) hts inlX5 (hts0 _ st_i5)
  obtain ⟨c6, i6, k6⟩ := u_known (C := RX6) (T := TX6) (N := 7) (n := 7) hts inlX6 (hts0 _ st_i6)
  obtain ⟨cI, aI, rI⟩ := arr_known (ty := .int) (hts0 _ st_aI) (fun _ h => h)
  obtain ⟨cZ, aZ, rZ⟩ := arr_known (ty := .boolean) (hts0 _ st_aZ) (fun _ h => h)
  obtain ⟨cG, aG, rG⟩ := grid_known (hts0 _ st_aG)
  refine ⟨fun k => match k with | 0 => c0 | 1 => c1 | 2 => c2 | 3 => c3 | 4 => c4 | 5 => c5 | _ => c6, fun k => match k with | 0 => i0 | 1 => i1 | 2 => i2 | 3 => i3 | 4 => i4 | 5 => i5 | _ => i6, cI, cZ, cG, ?_, ?_⟩
  · intro k q hq
    match k, hq with
    | 0, hq => cases hq; exact k0
    | 1, hq => cases hq; exact k1
    | 2, hq => cases hq; exact k2
    | 3, hq => cases hq; exact k3
    | 4, hq => cases hq; exact k4
    | 5, hq => cases hq; exact k5
    | 6, hq => cases hq; exact k6
    | k + 7, hq => simp [vwCl] at hq
  · intro k q hq
    match k, hq with
    | 0, hq => cases hq; exact ⟨aI, rI⟩
    | 1, hq => cases hq; exact ⟨aZ, rZ⟩
    | 2, hq => cases hq; exact ⟨aG, rG⟩
    | k + 3, hq => simp at hq
theorem st_n0 : Cond.methodLinkNest RX0 24 yX1_init RX6 ∈ lw_tbl := by decide +kernel
theorem st_n1 : Cond.methodLinkNest RX4 27 yX1_init RX6 ∈ lw_tbl := by decide +kernel
theorem st_n2 : Cond.methodLinkNest RX6 9 yX0_init RX6 ∈ lw_tbl := by decide +kernel
theorem st_n3 : Cond.methodLinkNest RX6 18 yX4_init RX6 ∈ lw_tbl := by decide +kernel
theorem st_n4 : Cond.methodLinkNest RX6 25 yX5_init RX6 ∈ lw_tbl := by decide +kernel
theorem st_n5 : Cond.methodLinkNest RX6 32 yX1_init RX6 ∈ lw_tbl := by decide +kernel
theorem st_n6 : Cond.methodLinkNest RX6 39 yX3_init RX6 ∈ lw_tbl := by decide +kernel
theorem st_n7 : Cond.methodLinkNest RX6 46 yX2_init RX6 ∈ lw_tbl := by decide +kernel
theorem start_N {s : State} {args : Array Value} (hts0 : ∀ w ∈ lw_tbl, w.before args s = true) : nX6 s :=
  ⟨va_Nw.of rfl (hts0 _ st_n0), va_Nw.of rfl (hts0 _ st_n1), va_AOA.of (hts0 _ st_aG), va_Nw.of rfl (hts0 _ st_n2), va_Nw.of rfl (hts0 _ st_n3), va_Nw.of rfl (hts0 _ st_n4), va_Nw.of rfl (hts0 _ st_n5), va_Nw.of rfl (hts0 _ st_n6), va_Nw.of rfl (hts0 _ st_n7)⟩
