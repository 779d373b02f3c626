/-! out of what holds at the law's entry -/
theorem b_Tb {s : State} {b : Nat} (hts : ∀ w ∈ lw_tbl, w.before #[Value.ref b] s = true) : zTb s := fun w hw h1 => zst_warm h1 (State.WarmedH.refl s) (hts w hw)
theorem b_Nc {s : State} {b : Nat} (hgv : (Jvm.Cond.and given_1 narrow_1).before #[Value.ref b] s = true) : ∀ q ∈ zNcs, va_Nc q.1 q.2 s := by
  have hs := flat_of_before _ hgv
  intro q hq
  simp only [zNcs, List.mem_cons, List.mem_nil_iff, or_false] at hq
  rcases hq with rfl | rfl | rfl
  · exact va_Nc.of (hs _ (by decide +kernel))
  · exact va_Nc.of (hs _ (by decide +kernel))
  · exact va_Nc.of (hs _ (by decide +kernel))
theorem b_AO {s : State} {b : Nat} (hts : ∀ w ∈ lw_tbl, w.before #[Value.ref b] s = true) : va_AO "LineLearner$Format" s := va_AO.of (hts _ (List.mem_of_getElem? (i := 198) (by decide +kernel)))
theorem b_arr {s : State} {b : Nat} {ty : FieldType} (h : (Cond.arrayClass ty).before #[Value.ref b] s = true) : ∃ cA, ArrOfT s cA ty ∧ s.vm.findClass ("[" ++ ty.toString) = some cA := by
  obtain ⟨cA, kA, comp, h1, h2, h3⟩ := Cond.arrayClass_spec h
  exact ⟨cA, fun n z => ⟨fun k q => (by cases q), kA, h2, comp, h3⟩, h1⟩
theorem b_K {s : State} {b : Nat} (hts : ∀ w ∈ lw_tbl, w.before #[Value.ref b] s = true) : ∃ (D : va_G) (cs : Nat → ClassId), va_K D vwCl (ztys cs) s := by
  obtain ⟨c0, i0, k0⟩ := u_known (C := RX0) (T := TX0) (N := 10) (n := 10) hts (fun w hw => (zcl0.2.1 w hw).1) (hts _ kw71.1)
  obtain ⟨c1, i1, k1⟩ := u_known (C := RX1) (T := TX1) (N := 8) (n := 8) hts (fun w hw => (zcl1.2.1 w hw).1) (hts _ kw113.1)
  obtain ⟨c2, i2, k2⟩ := u_known (C := RX2) (T := TX2) (N := 8) (n := 8) hts (fun w hw => (zcl2.2.1 w hw).1) (hts _ kw23.1)
  obtain ⟨c3, i3, k3⟩ := u_known (C := RX3) (T := TX3) (N := 11) (n := 11) hts (fun w hw => (zcl3.2.1 w hw).1) (hts _ kw15.1)
  obtain ⟨c4, i4, k4⟩ := u_known (C := RX4) (T := TX4) (N := 27) (n := 27) hts (fun w hw => (zcl4.2.1 w hw).1) (hts _ kw672.1)
  obtain ⟨aI, hI, nI⟩ := b_arr (hts _ kw69.1)
  obtain ⟨aB, hB, nB⟩ := b_arr (hts _ kw68.1)
  obtain ⟨aZ, hZ, nZ⟩ := b_arr (hts _ kw111.1)
  obtain ⟨aJ, hJ, nJ⟩ := b_arr (hts _ kw973.1)
  obtain ⟨comp, aF, kF, f1, f2, f3, f4, f5⟩ := Cond.arrayOver_spec (b_AO hts)
  refine ⟨(fun k => if k = 0 then c0 else if k = 1 then c1 else if k = 2 then c2 else if k = 3 then c3 else c4, fun k => if k = 0 then i0 else if k = 1 then i1 else if k = 2 then i2 else if k = 3 then i3 else i4), fun k => if k = 0 then aI else if k = 1 then aB else if k = 2 then aZ else if k = 3 then aJ else aF, fun k q hq => ?_, fun k q hq => ?_⟩
  · match k, hq with
    | 0, hq => cases hq; exact k0
    | 1, hq => cases hq; exact k1
    | 2, hq => cases hq; exact k2
    | 3, hq => cases hq; exact k3
    | 4, hq => cases hq; exact k4
    | k + 5, hq => simp at hq
  · match k, hq with
    | 0, hq => cases hq; exact ⟨hI, nI⟩
    | 1, hq => cases hq; exact ⟨hB, nB⟩
    | 2, hq => cases hq; exact ⟨hZ, nZ⟩
    | 3, hq => cases hq; exact ⟨hJ, nJ⟩
    | 4, hq => cases hq; exact ⟨fun n z => ⟨fun k q => (by cases q), kF, f3, comp, f4⟩, kF, comp, f3, f4, f1, f5⟩
    | k + 5, hq => simp [ztys] at hq
theorem b_St {s : State} {b : Nat} (hts : ∀ w ∈ lw_tbl, w.before #[Value.ref b] s = true) : ∀ q ∈ zStrs, ∃ sa, vk_R "LineLearner" q.1 q.2 sa s := by
  obtain ⟨cC, kC, hfc, -⟩ := Cond.instantiable_spec (hts _ kw15.1)
  have key : ∀ (k : Nat) (tx : String), (Cond.stringRef "LineLearner" k tx).before #[Value.ref b] s = true → ∃ sa, vk_R "LineLearner" k tx sa s := fun k tx h => by
    obtain ⟨-, -, -, a, -, -, -, -, -, hev⟩ := Cond.stringRef_spec hfc h
    exact ⟨a, vk_R.of h hev⟩
  have all : ∀ q ∈ zStrs, Cond.stringRef "LineLearner" q.1 q.2 ∈ lw_tbl := by decide +kernel
  exact fun q hq => key _ _ (hts _ (all q hq))
theorem b_OV {s : State} {b : Nat} (hts : ∀ w ∈ lw_tbl, w.before #[Value.ref b] s = true) (hgv : (Jvm.Cond.and given_1 narrow_1).before #[Value.ref b] s = true) : zOutV s := ⟨b_St hts, b_Nc hgv⟩
theorem b_Q {s : State} {b : Nat} {A : Nat → Prop} (hts : ∀ w ∈ lw_tbl, w.before #[Value.ref b] s = true) (hgv : (Jvm.Cond.and given_1 narrow_1).before #[Value.ref b] s = true) (hA : ∀ a : Nat, a < s.heap.size → ¬ A a) : vx_Zq Bundle.tN "UNASSIGNED_STACK" Bundle.steD A s s.heap ∧ vx_Zq Bundle.tN "SUPPRESSED_SENTINEL" Bundle.listD A s s.heap := by
  have hs := flat_of_before _ hgv
  have hi : (Cond.initialized Bundle.tN).before #[Value.ref b] s = true := hts _ (by decide +kernel)
  exact ⟨vx_Zqof (hts _ (List.mem_of_getElem? (i := 365) (by decide +kernel))) hi (hs _ (by decide +kernel)) hA, vx_Zqof (hts _ (List.mem_of_getElem? (i := 367) (by decide +kernel))) hi (hs _ (by decide +kernel)) hA⟩
theorem b_Z {s : State} {b : Nat} {A : Nat → Prop} (hts : ∀ w ∈ lw_tbl, w.before #[Value.ref b] s = true) (hgv : (Jvm.Cond.and given_1 narrow_1).before #[Value.ref b] s = true) (hA : ∀ a : Nat, a < s.heap.size → ¬ A a) : ∃ t : Nat, va_Z "LineLearner" "BITS_A_BYTE" "[I" (.ref t) A s s.heap ∧ va_T .int t 4 (fun j => .int (zI (zPer j))) A s s.heap := by
  have hs := flat_of_before _ hgv
  obtain ⟨t, ht, hT⟩ := va_Tof (tm := .static "LineLearner" "BITS_A_BYTE" "[I") (ty := .int) (N := 4) (f := fun j => .int (zI (zPer j))) (args := #[Value.ref b]) (s := s) (A := A) (by decide) (hs _ (by decide +kernel)) (va_eqv (u := .int 4) (hs _ (by decide +kernel)) rfl) (fun j hj => by
    match j, hj with
    | 0, _ => exact va_eqv (u := .int 5) (hs _ (by decide +kernel)) rfl
    | 1, _ => exact va_eqv (u := .int 4) (hs _ (by decide +kernel)) rfl
    | 2, _ => exact va_eqv (u := .int 1) (hs _ (by decide +kernel)) rfl
    | 3, _ => exact va_eqv (u := .int 7) (hs _ (by decide +kernel)) rfl) hA
  exact ⟨t, va_Zof (hts _ (List.mem_of_getElem? (i := 297) (by decide +kernel))) (hts _ kw1.1) ht hA, hT⟩
theorem b_OH {s : State} {b : Nat} {A : Nat → Prop} (hts : ∀ w ∈ lw_tbl, w.before #[Value.ref b] s = true) (hgv : (Jvm.Cond.and given_1 narrow_1).before #[Value.ref b] s = true) (hA : ∀ a : Nat, a < s.heap.size → ¬ A a) : zOutH A s s.heap := ⟨(b_Q hts hgv hA).1, (b_Q hts hgv hA).2, b_Z hts hgv hA⟩
