/-! what holds at the law's start -/
theorem bw_in {w : Cond} (h : w ∈ BW) : w ∈ lw_tbl := (List.mem_filter.mp h).1
theorem nwl_in : ∀ w ∈ NWL, w ∈ lw_tbl := by decide +kernel
theorem nw_args {w : Cond} (hw : nwOk w = true) {A : Array Value} {s : State} (h : w.before A s = true) : va_Nw w s := by
  unfold nwOk at hw
  split at hw
  all_goals first
    | exact h
    | cases hw
theorem str_in : ∀ q ∈ strL, Cond.stringRef "SealHouse" q.1 q.2 ∈ lw_tbl := by decide +kernel
theorem arr_of {s : State} {args : Array Value} {ty : FieldType} (h : (Cond.arrayClass ty).before args s = true) : ∃ cA, ArrOfT s cA ty ∧ s.vm.findClass ("[" ++ ty.toString) = some cA := by
  obtain ⟨cA, kA, comp, hf, hk, hkind⟩ := Cond.arrayClass_spec h
  exact ⟨cA, fun n z => ⟨(fun k h => by cases h), kA, hk, comp, hkind⟩, hf⟩
theorem arr_over {s : State} {args : Array Value} {C : String} (h : (Cond.arrayOver (.object C)).before args s = true) : ∃ cA, ArrOfT s cA (.object C) ∧ va_RA s cA (.object C) := by
  obtain ⟨comp, cA, kA, h1, h2, h3, h4, h5⟩ := Cond.arrayOver_spec h
  exact ⟨cA, fun n z => ⟨(fun k h => by cases h), kA, h3, comp, h4⟩, kA, comp, h3, h4, h1, h5⟩
theorem start_WK {s : State} {b : Nat} (hts : ∀ w ∈ lw_tbl, w.before #[Value.ref b] s = true) : ∃ (D : va_G) (g : Nat → ClassId), WK D g s := by
  have hB : ∀ w ∈ BW, w.before #[Value.ref b] s = true := fun w h => hts w (bw_in h)
  have hNW : ∀ w ∈ NWL, va_Nw w s := fun w h => nw_args (NWL_ok w h) (hts w (nwl_in w h))
  obtain ⟨c0, i0, k0⟩ := u_known (C := RX0) (T := TX0) (N := 17) hB in_X0 (hB _ wd_45)
  obtain ⟨c1, i1, k1⟩ := u_known (C := RX1) (T := TX1) (N := 5) hB in_X1 (hB _ wd_120)
  obtain ⟨c2, i2, k2⟩ := u_known (C := RX2) (T := TX2) (N := 2) hB in_X2 (hB _ wd_718)
  obtain ⟨c3, i3, k3⟩ := u_known (C := RX3) (T := TX3) (N := 6) hB in_X3 (hB _ wd_145)
  obtain ⟨c4, i4, k4⟩ := u_known (C := RX4) (T := TX4) (N := 2) hB in_X4 (hB _ wd_25)
  obtain ⟨c5, i5, k5⟩ := u_known (C := RX5) (T := TX5) (N := 2) hB in_X5 (hB _ wd_51)
  obtain ⟨c6, i6, k6⟩ := u_known (C := RX6) (T := TX6) (N := 16) hB in_X6 (hB _ wd_16)
  obtain ⟨c7, i7, k7⟩ := u_known (C := RX7) (T := TX7) (N := 2) hB in_X7 (hB _ wd_936)
  obtain ⟨c8, i8, k8⟩ := u_known (C := RX8) (T := TX8) (N := 53) hB in_X8 (hB _ wd_930)
  obtain ⟨g0, a0, n0⟩ := arr_of (hB _ wd_41)
  obtain ⟨g1, a1, n1⟩ := arr_of (hB _ wd_143)
  obtain ⟨g2, a2, n2⟩ := arr_of (hB _ wd_65)
  obtain ⟨g3, a3, n3⟩ := arr_of (hB _ wd_1110)
  obtain ⟨g4, a4, n4⟩ := arr_over (hts _ (nwl_in _ nw_1))
  obtain ⟨g5, a5, n5⟩ := arr_over (hts _ (nwl_in _ nw_0))
  obtain ⟨g6, a6, n6⟩ := arr_over (hts _ (nwl_in _ nw_12))
  refine ⟨(fun k => match k with | 0 => c0 | 1 => c1 | 2 => c2 | 3 => c3 | 4 => c4 | 5 => c5 | 6 => c6 | 7 => c7 | _ => c8, fun k => match k with | 0 => i0 | 1 => i1 | 2 => i2 | 3 => i3 | 4 => i4 | 5 => i5 | 6 => i6 | 7 => i7 | _ => i8), fun k => match k with | 0 => g0 | 1 => g1 | 2 => g2 | 3 => g3 | 4 => g4 | 5 => g5 | _ => g6, ⟨?_, ?_⟩, hNW, ?_⟩
  · intro k q hq
    match k, hq with
    | 0, hq => cases hq; exact k0
    | 1, hq => cases hq; exact k1
    | 2, hq => cases hq; exact k2
    | 3, hq => cases hq; exact k3
    | 4, hq => cases hq; exact k4
    | 5, hq => cases hq; exact k5
    | 6, hq => cases hq; exact k6
    | 7, hq => cases hq; exact k7
    | 8, hq => cases hq; exact k8
    | k + 9, hq => exact absurd hq (by simp [vwCl])
  · intro k q hq
    match k, hq with
    | 0, hq => cases hq; exact ⟨a0, n0⟩
    | 1, hq => cases hq; exact ⟨a1, n1⟩
    | 2, hq => cases hq; exact ⟨a2, n2⟩
    | 3, hq => cases hq; exact ⟨a3, n3⟩
    | 4, hq => cases hq; exact ⟨a4, n4⟩
    | 5, hq => cases hq; exact ⟨a5, n5⟩
    | 6, hq => cases hq; exact ⟨a6, n6⟩
    | k + 7, hq => exact absurd hq (by simp [tysL])
  · intro q hq
    obtain ⟨k, cf, i, a, -, -, -, -, -, he⟩ := Cond.stringRef_spec k6.2.1 (hts _ (str_in q hq))
    exact ⟨a, vk_R.of (hts _ (str_in q hq)) he⟩
theorem flat_el : ∀ j, j < 6 → ∀ i, i < (sT j).length → Cond.eq (.elem (.static (sC j) (sN j) "[I") (.int (Int32.ofNat i))) (.int (iI ((sT j).getD i 0))) ∈ flatC (Jvm.Cond.and given_1 narrow_1) := by decide +kernel
theorem flat_len : ∀ j, j < 6 → Cond.eq (.length (.static (sC j) (sN j) "[I")) (.int (Int32.ofNat (sT j).length)) ∈ flatC (Jvm.Cond.and given_1 narrow_1) := by decide +kernel
theorem flat_arr : ∀ j, j < 6 → Cond.arrayOf (.static (sC j) (sN j) "[I") .int ∈ flatC (Jvm.Cond.and given_1 narrow_1) := by decide +kernel
theorem st_lay : ∀ j, j < 6 → Cond.laysStatic (sC j) (sN j) "[I" ∈ lw_tbl ∧ Cond.initialized (sC j) ∈ lw_tbl := by decide +kernel
theorem st_len : ∀ j, j < 6 → (sT j).length < 2 ^ 31 := by decide +kernel
theorem th_lay : Cond.laysStatic Bundle.tN "UNASSIGNED_STACK" Bundle.steD ∈ lw_tbl ∧ Cond.laysStatic Bundle.tN "SUPPRESSED_SENTINEL" Bundle.listD ∈ lw_tbl ∧ Cond.initialized Bundle.tN ∈ lw_tbl := by decide +kernel
theorem th_ref : Cond.isRef (.static Bundle.tN "UNASSIGNED_STACK" Bundle.steD) ∈ flatC (Jvm.Cond.and given_1 narrow_1) ∧ Cond.isRef (.static Bundle.tN "SUPPRESSED_SENTINEL" Bundle.listD) ∈ flatC (Jvm.Cond.and given_1 narrow_1) := by decide +kernel
theorem nc_in : Cond.not (.castable eA eI) ∈ flatC (Jvm.Cond.and given_1 narrow_1) := by decide +kernel
theorem start_SR {s : State} {b : Nat} (hts : ∀ w ∈ lw_tbl, w.before #[Value.ref b] s = true) (hgv : (Jvm.Cond.and given_1 narrow_1).before #[Value.ref b] s = true) : SR (fun q => s.heap.size ≤ q) s s.heap := by
  have hs := flat_of_before _ hgv
  have hA : ∀ a : Nat, a < s.heap.size → ¬ (fun q => s.heap.size ≤ q) a := fun a h => Nat.not_le.mpr h
  refine ⟨fun j hj => ?_, vx_Zqof (hts _ th_lay.1) (hts _ th_lay.2.2) (hs _ th_ref.1) hA, vx_Zqof (hts _ th_lay.2.1) (hts _ th_lay.2.2) (hs _ th_ref.2) hA⟩
  obtain ⟨t, ht, hT⟩ := va_Tof (tm := .static (sC j) (sN j) "[I") (ty := .int) (N := (sT j).length) (f := fun i => .int (iI ((sT j).getD i 0))) (st_len j hj) (hs _ (flat_arr j hj)) (va_eqt (hs _ (flat_len j hj))) (fun i hi => va_eqt (hs _ (flat_el j hj i hi))) hA
  exact ⟨t, va_Zof (hts _ (st_lay j hj).1) (hts _ (st_lay j hj).2) ht hA, hT⟩
theorem start_Nc {s : State} {b : Nat} (hgv : (Jvm.Cond.and given_1 narrow_1).before #[Value.ref b] s = true) : va_Nc eA eI s := va_Nc.of (flat_of_before _ hgv _ nc_in)
