/-! out of what holds at the law's entry -/
theorem b_Tb {s : State} {b : Nat} (hts : ∀ w ∈ lw_tbl, w.before #[Value.ref b] s = true) : zTb s := fun w hw h1 => zst_warm h1 (State.WarmedH.refl s) (hts w hw)
theorem b_AO {s : State} {b : Nat} (hts : ∀ w ∈ lw_tbl, w.before #[Value.ref b] s = true) : va_AO "LineLearner$Format" s ∧ va_AO "java/lang/String" s := ⟨va_AO.of (hts _ (by decide +kernel)), va_AO.of (hts _ (by decide +kernel))⟩
theorem b_arr {s : State} {b : Nat} {ty : FieldType} (h : (Cond.arrayClass ty).before #[Value.ref b] s = true) : ∃ cA, ArrOfT s cA ty ∧ s.vm.findClass ("[" ++ ty.toString) = some cA := by
  obtain ⟨cA, kA, comp, h1, h2, h3⟩ := Cond.arrayClass_spec h
  exact ⟨cA, fun n z => ⟨fun k q => (by cases q), kA, h2, comp, h3⟩, h1⟩
theorem b_K {s : State} {b : Nat} (hts : ∀ w ∈ lw_tbl, w.before #[Value.ref b] s = true) : ∃ (D : va_G) (cs : Nat → ClassId), va_K D vwCl (ztys cs) s := by
  obtain ⟨c0, i0, k0⟩ := u_known (C := RX0) (T := TX0) (N := 10) (n := 10) hts (fun w hw => (zcl0.2.1 w hw).1) (hts _ kw71.1)
  obtain ⟨c1, i1, k1⟩ := u_known (C := RX1) (T := TX1) (N := 8) (n := 8) hts (fun w hw => (zcl1.2.1 w hw).1) (hts _ kw113.1)
  obtain ⟨c2, i2, k2⟩ := u_known (C := RX2) (T := TX2) (N := 8) (n := 8) hts (fun w hw => (zcl2.2.1 w hw).1) (hts _ kw23.1)
  obtain ⟨c3, i3, k3⟩ := u_known (C := RX3) (T := TX3) (N := 11) (n := 11) hts (fun w hw => (zcl3.2.1 w hw).1) (hts _ kw15.1)
  obtain ⟨aI, hI, nI⟩ := b_arr (hts _ kw69.1)
  obtain ⟨aB, hB, nB⟩ := b_arr (hts _ kw68.1)
  obtain ⟨aZ, hZ, nZ⟩ := b_arr (hts _ kw111.1)
  obtain ⟨comp, aF, kF, f1, f2, f3, f4, f5⟩ := Cond.arrayOver_spec (b_AO hts).1
  refine ⟨(fun k => if k = 0 then c0 else if k = 1 then c1 else if k = 2 then c2 else c3, fun k => if k = 0 then i0 else if k = 1 then i1 else if k = 2 then i2 else i3), fun k => if k = 0 then aI else if k = 1 then aB else if k = 2 then aZ else if k = 3 then aI else aF, fun k q hq => ?_, fun k q hq => ?_⟩
  · match k, hq with
    | 0, hq => cases hq; exact k0
    | 1, hq => cases hq; exact k1
    | 2, hq => cases hq; exact k2
    | 3, hq => cases hq; exact k3
    | k + 4, hq => simp at hq
  · match k, hq with
    | 0, hq => cases hq; exact ⟨hI, nI⟩
    | 1, hq => cases hq; exact ⟨hB, nB⟩
    | 2, hq => cases hq; exact ⟨hZ, nZ⟩
    | 3, hq => cases hq; exact ⟨hI, nI⟩
    | 4, hq => cases hq; exact ⟨fun n z => ⟨fun k q => (by cases q), kF, f3, comp, f4⟩, kF, comp, f3, f4, f1, f5⟩
    | k + 5, hq => simp [ztys] at hq
theorem b_St {s : State} {b : Nat} (hts : ∀ w ∈ lw_tbl, w.before #[Value.ref b] s = true) : ∀ q ∈ zStrs, ∃ sa, vk_R "LineLearner" q.1 q.2 sa s := by
  obtain ⟨cC, kC, hfc, -⟩ := Cond.instantiable_spec (hts _ kw15.1)
  have key : ∀ (k : Nat) (tx : String), (Cond.stringRef "LineLearner" k tx).before #[Value.ref b] s = true → ∃ sa, vk_R "LineLearner" k tx sa s := fun k tx h => by
    obtain ⟨-, -, -, a, -, -, -, -, -, hev⟩ := Cond.stringRef_spec hfc h
    exact ⟨a, vk_R.of h hev⟩
  have all : ∀ q ∈ zStrs, Cond.stringRef "LineLearner" q.1 q.2 ∈ lw_tbl := by decide +kernel
  exact fun q hq => key _ _ (hts _ (all q hq))
theorem b_Q {s : State} {b : Nat} {A : Nat → Prop} (hts : ∀ w ∈ lw_tbl, w.before #[Value.ref b] s = true) (hgv : (Jvm.Cond.and given_1 narrow_1).before #[Value.ref b] s = true) (hA : ∀ a : Nat, a < s.heap.size → ¬ A a) : vx_Zq Bundle.tN "UNASSIGNED_STACK" Bundle.steD A s s.heap ∧ vx_Zq Bundle.tN "SUPPRESSED_SENTINEL" Bundle.listD A s s.heap := by
  have hs := flat_of_before _ hgv
  have hi : (Cond.initialized Bundle.tN).before #[Value.ref b] s = true := hts _ (by decide +kernel)
  exact ⟨vx_Zqof (hts _ (by decide +kernel)) hi (hs _ (by decide +kernel)) hA, vx_Zqof (hts _ (by decide +kernel)) hi (hs _ (by decide +kernel)) hA⟩
/-- a literal's place -/
abbrev bTm (i : Nat) : Term := .string "LineLearnerLaw" (sxT.getD i (0, "", [])).1
theorem b_litw : ∀ i : Fin 16, Cond.exactly (bTm i.val) "java/lang/String" ∈ flatC (Jvm.Cond.and given_1 narrow_1) ∧ Cond.eq (.field (bTm i.val) "java/lang/String" "coder" "B") (.int 0) ∈ flatC (Jvm.Cond.and given_1 narrow_1) ∧ Cond.arrayOf (.field (bTm i.val) "java/lang/String" "value" "[B") .byte ∈ flatC (Jvm.Cond.and given_1 narrow_1) ∧ Cond.eq (.length (.field (bTm i.val) "java/lang/String" "value" "[B")) (.int (Int32.ofNat (sxB i.val).length)) ∈ flatC (Jvm.Cond.and given_1 narrow_1) ∧ Cond.stringRef "LineLearnerLaw" (sxT.getD i.val (0, "", [])).1 (sxT.getD i.val (0, "", [])).2.1 ∈ lw_tbl := by decide +kernel
theorem b_litb : ∀ i : Fin 16, ∀ j : Fin 6, j.val < (sxB i.val).length → Cond.eq (.elem (.field (bTm i.val) "java/lang/String" "value" "[B") (.int (Int32.ofNat j.val))) (.int (Int32.ofNat ((sxB i.val).getD j.val 0))) ∈ flatC (Jvm.Cond.and given_1 narrow_1) := by decide +kernel
theorem b_Tx {s : State} {b : Nat} {A : Nat → Prop} (hts : ∀ w ∈ lw_tbl, w.before #[Value.ref b] s = true) (hgv : (Jvm.Cond.and given_1 narrow_1).before #[Value.ref b] s = true) (hA : ∀ a : Nat, a < s.heap.size → ¬ A a) : zTexts A s s.heap := by
  have hs := flat_of_before _ hgv
  refine ⟨va_Zof (hts _ (by decide +kernel)) (hts _ (by decide +kernel)) (va_eqt (hs _ (by decide +kernel))) hA, va_Zqof (hts _ (by decide +kernel)) (hts _ (by decide +kernel)) (hs _ (by decide +kernel)) hA, ?_⟩
  have lit : ∀ i : Nat, ∃ q : Nat × Nat, i < 16 → oStr A s s.heap q.1 q.2 (sxB i) ∧ vk_R "LineLearnerLaw" (sxT.getD i (0, "", [])).1 (sxT.getD i (0, "", [])).2.1 q.1 s := by
    intro i
    by_cases hi : i < 16
    · obtain ⟨w1, w2, w3, w4, w5⟩ := b_litw ⟨i, hi⟩
      have hl : (sxB i).length ≤ 6 := (sxB_lt i hi).1
      obtain ⟨a, c, cA, kA, q1, q2, q3, q4, q5, q6, -⟩ := Cond.exactly_spec (args := #[Value.ref b]) (first := s) (o := none) (s := s) (idx := []) (t := bTm i) (cls := "java/lang/String") (hs _ w1)
      obtain ⟨t, ht, hT⟩ := va_Tof (f := fun j => .int (nI ((sxB i).getD j 0))) (N := (sxB i).length) (A := A) (by omega) (hs _ w3) (va_eqt (hs _ w4)) (fun j hj => va_eqt (hs _ (b_litb ⟨i, hi⟩ ⟨j, by omega⟩ hj))) hA
      refine ⟨(a, t), fun _ => ⟨⟨⟨cA, q3, q5, by rw [q6]; exact q2, hA a (Array.getElem?_eq_some_iff.mp q3).1⟩, vk_OFof q1 (va_eqt (hs _ w2)) hA, vk_OFof q1 ht hA, hT⟩, vk_R.of (hts _ w5) ?_⟩⟩
      rw [Term.string_eval_of_vm (args := #[]) rfl]
      exact q1
    · exact ⟨(0, 0), fun h => absurd h hi⟩
  obtain ⟨ad, had⟩ := Classical.axiomOfChoice lit
  exact ⟨fun i => (ad i).1, fun i => (ad i).2, fun i hi => had i hi⟩
theorem b_OH {s : State} {b : Nat} {A : Nat → Prop} (hts : ∀ w ∈ lw_tbl, w.before #[Value.ref b] s = true) (hgv : (Jvm.Cond.and given_1 narrow_1).before #[Value.ref b] s = true) (hA : ∀ a : Nat, a < s.heap.size → ¬ A a) : zOutH A s s.heap := ⟨(b_Q hts hgv hA).1, (b_Q hts hgv hA).2, b_Tx hts hgv hA⟩
