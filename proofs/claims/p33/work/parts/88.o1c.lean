/-! a line's tokens as a list of texts -/
def kN (c : Nat) : Nat := (zkd c).toNat
/-- the tokens so far, the last first, each with its last byte first -/
def tadd : List (List Nat) → Nat → List (List Nat)
  | (d :: x) :: r, c => if kN c = 3 ∨ kN c ≠ kN d then [c] :: (d :: x) :: r else (c :: d :: x) :: r
  | L, c => [c] :: L
def tks (bs : List Nat) : List (List Nat) := bs.foldl tadd []
/-- the texts in their order -/
def tTx (bs : List Nat) : List (List Nat) := ((tks bs).map List.reverse).reverse
theorem tks_snoc (bs : List Nat) (c : Nat) : tks (bs ++ [c]) = tadd (tks bs) c := by
  unfold tks
  rw [List.foldl_append]
  rfl
theorem kN_eq {c d : Nat} : kN c = kN d ↔ zkd c = zkd d := by
  unfold kN
  have h1 := zkd_bd (c := (c : Int))
  have h2 := zkd_bd (c := (d : Int))
  omega
theorem kN_3 {c : Nat} : kN c = 3 ↔ zkd c = 3 := by
  unfold kN
  have h1 := zkd_bd (c := (c : Int))
  omega
/-- what the list says of the first k bytes -/
def tRel (bs : List Nat) (k : Nat) (L : List (List Nat)) : Prop := L.length = zcnt (zKd bs) k ∧ (0 < k → ∃ x r, L = (bs.getD (k - 1) 0 :: x) :: r) ∧ ∀ t : Nat, t < zcnt (zKd bs) k → ∃ a x, L[zcnt (zKd bs) k - 1 - t]? = some x ∧ zsn (zKd bs) k t = (a : Nat) ∧ zzn (zKd bs) k t = x.length ∧ a + x.length ≤ k ∧ (t + 1 = zcnt (zKd bs) k → a + x.length = k) ∧ ∀ j, j < x.length → x.reverse.getD j 0 = bs.getD (a + j) 0
theorem tRel_all (bs : List Nat) : ∀ k, k ≤ bs.length → tRel bs k (tks (bs.take k))
  | 0, _ => ⟨rfl, fun h => absurd h (Nat.lt_irrefl 0), fun t ht => absurd ht (Nat.not_lt_zero t)⟩
  | k + 1, hk => by
    obtain ⟨h1, h2, h3⟩ := tRel_all bs k (by omega)
    have hc : bs[k]? = some (bs.getD k 0) := by
      rw [List.getD_eq_getElem?_getD, List.getElem?_eq_getElem (by omega)]
      rfl
    have e1 : bs.take (k + 1) = bs.take k ++ [bs.getD k 0] := by
      rw [List.take_succ, hc]
      rfl
    rw [e1, tks_snoc]
    obtain ⟨c, hcc⟩ : ∃ c, c = bs.getD k 0 := ⟨_, rfl⟩
    have hkd : zKd bs k = zkd c := by
      unfold zKd
      rw [hcc]
    rw [← hcc]
    generalize hL : tks (bs.take k) = L at *
    have cz : zcnt (zKd bs) (k + 1) = zcnt (zKd bs) k + if znew (zKd bs) k then 1 else 0 := rfl
    have sz : ∀ t, zsn (zKd bs) (k + 1) t = if znew (zKd bs) k = true ∧ t = zcnt (zKd bs) k then (k : Int) else zsn (zKd bs) k t := fun t => rfl
    have zz : ∀ t, zzn (zKd bs) (k + 1) t = if znew (zKd bs) k = true then (if t = zcnt (zKd bs) k then 1 else zzn (zKd bs) k t) else if t + 1 = zcnt (zKd bs) k then zzn (zKd bs) k t + 1 else zzn (zKd bs) k t := fun t => rfl
    have hnew : tadd L c = [c] :: L ∧ znew (zKd bs) k = true ∨ (∃ x r, L = (bs.getD (k - 1) 0 :: x) :: r ∧ tadd L c = (c :: bs.getD (k - 1) 0 :: x) :: r) ∧ znew (zKd bs) k = false ∧ 0 < k := by
      by_cases k0 : k = 0
      · subst k0
        have : L = [] := by
          rw [← hL]
          rfl
        subst this
        exact Or.inl ⟨rfl, by simp [znew]⟩
      · obtain ⟨x, r, hx⟩ := h2 (by omega)
        have hd : zKd bs (k - 1) = zkd (bs.getD (k - 1) 0) := rfl
        by_cases q : kN c = 3 ∨ kN c ≠ kN (bs.getD (k - 1) 0)
        · left
          refine ⟨?_, ?_⟩
          · rw [hx]
            show (if kN c = 3 ∨ kN c ≠ kN (bs.getD (k - 1) 0) then _ else _) = _
            rw [if_pos q]
          · unfold znew
            refine decide_eq_true (Or.inr ?_)
            rw [hkd, hd]
            rcases q with q | q
            · exact Or.inl (kN_3.mp q)
            · exact Or.inr (fun e => q (kN_eq.mpr e))
        · right
          refine ⟨⟨x, r, hx, ?_⟩, ?_, by omega⟩
          · rw [hx]
            show (if kN c = 3 ∨ kN c ≠ kN (bs.getD (k - 1) 0) then _ else _) = _
            rw [if_neg q]
          · unfold znew
            refine decide_eq_false ?_
            rw [hkd, hd]
            rintro (e | e | e)
            · exact k0 e
            · exact q (Or.inl (kN_3.mpr e))
            · exact q (Or.inr (fun z => e (kN_eq.mp z)))
    have hk1 : k + 1 - 1 = k := by omega
    rcases hnew with ⟨n1, n2⟩ | ⟨⟨x0, r0, hx0, n1⟩, n2, kpos⟩
    · rw [if_pos n2] at cz
      refine ⟨by rw [n1, cz, List.length_cons, h1], fun _ => ⟨[], L, by rw [n1, hk1, ← hcc]⟩, fun t ht => ?_⟩
      rw [sz, zz, cz, n1, if_pos n2]
      by_cases e : t = zcnt (zKd bs) k
      · rw [if_pos ⟨n2, e⟩, if_pos e]
        refine ⟨k, [c], ?_, rfl, rfl, Nat.le_refl _, fun _ => rfl, fun j hj => ?_⟩
        · rw [show zcnt (zKd bs) k + 1 - 1 - t = 0 by omega]
          rfl
        · have : j = 0 := by simp at hj; exact hj
          subst this
          rw [Nat.add_zero, ← hcc]
          rfl
      · rw [if_neg (fun z => e z.2), if_neg e]
        obtain ⟨a, x, a1, a2, a3, a4, a5, a6⟩ := h3 t (by omega)
        refine ⟨a, x, ?_, a2, a3, by omega, fun h => by omega, a6⟩
        rw [show zcnt (zKd bs) k + 1 - 1 - t = (zcnt (zKd bs) k - 1 - t) + 1 by omega, List.getElem?_cons_succ]
        exact a1
    · replace cz : zcnt (zKd bs) (k + 1) = zcnt (zKd bs) k := by rw [cz, if_neg (by rw [n2]; decide)]; rfl
      refine ⟨by rw [n1, cz, ← h1, hx0]; rfl, fun _ => ⟨_, r0, by rw [n1, hk1, ← hcc]⟩, fun t ht => ?_⟩
      rw [sz, zz, cz, n1, if_neg (by rw [n2]; exact fun z => absurd z.1 (by decide)), if_neg (by rw [n2]; decide)]
      obtain ⟨a, x, a1, a2, a3, a4, a5, a6⟩ := h3 t (by omega)
      by_cases e : t + 1 = zcnt (zKd bs) k
      · rw [if_pos e]
        have hx : x = bs.getD (k - 1) 0 :: x0 := by
          rw [show zcnt (zKd bs) k - 1 - t = 0 by omega, hx0] at a1
          exact (Option.some.inj a1).symm
        have hak := a5 e
        refine ⟨a, c :: x, ?_, a2, by rw [a3, List.length_cons]; push_cast; rfl, by rw [List.length_cons]; omega, fun _ => by rw [List.length_cons]; omega, fun j hj => ?_⟩
        · rw [show zcnt (zKd bs) k - 1 - t = 0 by omega, hx]
          rfl
        · rw [List.reverse_cons]
          rw [List.length_cons] at hj
          by_cases hj2 : j < x.length
          · rw [List.getD_eq_getElem?_getD, List.getElem?_append_left (by rw [List.length_reverse]; exact hj2), ← List.getD_eq_getElem?_getD]
            exact a6 j hj2
          · have hje : j = x.length := by omega
            rw [List.getD_eq_getElem?_getD, List.getElem?_append_right (by rw [List.length_reverse]; omega), List.length_reverse, hje, Nat.sub_self, hak, ← hcc]
            rfl
      · rw [if_neg e]
        refine ⟨a, x, ?_, a2, a3, by omega, fun h => by omega, a6⟩
        rw [hx0] at a1
        obtain ⟨u, hu⟩ : ∃ u, zcnt (zKd bs) k - 1 - t = u + 1 := ⟨zcnt (zKd bs) k - 1 - t - 1, by omega⟩
        rw [hu, List.getElem?_cons_succ] at a1 ⊢
        exact a1
/-- the token t of a line, in its text -/
theorem tTx_at {bs : List Nat} {t : Nat} (ht : t < zcnt (zKd bs) bs.length) : ∃ (a : Nat) (x : List Nat), (tTx bs)[t]? = some x ∧ zsn (zKd bs) bs.length t = a ∧ zzn (zKd bs) bs.length t = x.length ∧ a + x.length ≤ bs.length ∧ ∀ j, j < x.length → x.getD j 0 = bs.getD (a + j) 0 := by
  have h := tRel_all bs bs.length (Nat.le_refl _)
  rw [List.take_length] at h
  obtain ⟨h1, -, h3⟩ := h
  obtain ⟨a, x, a1, a2, a3, a4, a5, a6⟩ := h3 t ht
  refine ⟨a, x.reverse, ?_, a2, by rw [List.length_reverse]; exact a3, by rw [List.length_reverse]; exact a4, fun j hj => a6 j (by rw [List.length_reverse] at hj; exact hj)⟩
  unfold tTx
  rw [List.getElem?_reverse (by rw [List.length_map, h1]; exact ht), List.length_map, h1, List.getElem?_map, a1]
  rfl
theorem tTx_len (bs : List Nat) : (tTx bs).length = zcnt (zKd bs) bs.length := by
  have h := (tRel_all bs bs.length (Nat.le_refl _)).1
  rw [List.take_length] at h
  unfold tTx
  rw [List.length_reverse, List.length_map, h]
/-! how pieces add to the tokens -/
def tA (L : List (List Nat)) : Nat × Bool := match L with
  | (d :: x) :: _ => (kN d, decide (d :: x = [49]))
  | _ => (4, false)
def aS (s : Nat × Bool) (c : Nat) : (Nat × Bool) × Nat × Int := if s.1 = 4 ∨ kN c = 3 ∨ kN c ≠ s.1 then ((kN c, decide (c = 49)), 1, if c = 49 then 1 else 0) else ((kN c, false), 0, if s.2 then -1 else 0)
def tNe (L : List (List Nat)) : Prop := ∀ x ∈ L, x ≠ []
theorem kN_lt (c : Nat) : kN c < 4 := by
  unfold kN
  have h1 := zkd_bd (c := (c : Int))
  omega
theorem aS_ok {L : List (List Nat)} (hL : tNe L) (c : Nat) : tNe (tadd L c) ∧ tA (tadd L c) = (aS (tA L) c).1 ∧ (tadd L c).length = L.length + (aS (tA L) c).2.1 ∧ ((tadd L c).count [49] : Int) = (L.count [49] : Int) + (aS (tA L) c).2.2 := by
  have hnew : ∀ M : List (List Nat), tNe M → tNe ([c] :: M) ∧ tA ([c] :: M) = (kN c, decide (c = 49)) ∧ ([c] :: M).length = M.length + 1 ∧ ((([c] :: M).count [49] : Nat) : Int) = (M.count [49] : Int) + if c = 49 then 1 else 0 := fun M hM => by
    refine ⟨fun x hx => ?_, ?_, rfl, ?_⟩
    · rcases List.mem_cons.mp hx with rfl | h
      · simp
      · exact hM x h
    · show (kN c, decide ([c] = [49])) = _
      congr 1
      simp
    · rw [List.count_cons]
      by_cases h : c = 49
      · subst h
        simp
      · have : ([c] == [49]) = false := by simp [h]
        rw [this, if_neg h]
        simp
  match L, hL with
  | [], hL =>
    have := hnew [] hL
    show tNe ([[c]]) ∧ tA [[c]] = _ ∧ _ ∧ _
    have e : aS (tA []) c = ((kN c, decide (c = 49)), 1, if c = 49 then 1 else 0) := by
      unfold aS
      exact if_pos (Or.inl rfl)
    rw [e]
    exact this
  | [] :: r, hL => exact absurd rfl (hL [] List.mem_cons_self)
  | (d :: x) :: r, hL =>
    by_cases q : kN c = 3 ∨ kN c ≠ kN d
    · have e : aS (tA ((d :: x) :: r)) c = ((kN c, decide (c = 49)), 1, if c = 49 then 1 else 0) := by
        unfold aS
        exact if_pos (Or.inr q)
      have e2 : tadd ((d :: x) :: r) c = [c] :: (d :: x) :: r := by
        show (if kN c = 3 ∨ kN c ≠ kN d then _ else _) = _
        rw [if_pos q]
      rw [e, e2]
      exact hnew _ hL
    · have k4 := kN_lt d
      have e : aS (tA ((d :: x) :: r)) c = ((kN c, false), 0, if decide (d :: x = [49]) then -1 else 0) := by
        unfold aS
        rw [if_neg (fun z => by
          rcases z with z | z
          · have : kN d = 4 := z
            omega
          · exact q z)]
        rfl
      have e2 : tadd ((d :: x) :: r) c = (c :: d :: x) :: r := by
        show (if kN c = 3 ∨ kN c ≠ kN d then _ else _) = _
        rw [if_neg q]
      rw [e, e2]
      refine ⟨fun y hy => ?_, ?_, rfl, ?_⟩
      · rcases List.mem_cons.mp hy with rfl | h
        · simp
        · exact hL y (List.mem_cons_of_mem _ h)
      · show (kN c, decide (c :: d :: x = [49])) = _
        congr 1
        simp
      · rw [List.count_cons, List.count_cons]
        have h1 : ((c :: d :: x) == [49]) = false := by simp
        rw [h1]
        by_cases h : d :: x = [49]
        · have h2 : ((d :: x) == [49]) = true := by rw [h]; rfl
          rw [h2]
          simp [h]
          omega
        · have h2 : ((d :: x) == [49]) = false := by
            rw [beq_eq_false_iff_ne]
            exact h
          rw [h2]
          simp [h]
def aF : Nat × Bool → List Nat → (Nat × Bool) × Nat × Int
  | s, [] => (s, 0, 0)
  | s, c :: p => ((aF (aS s c).1 p).1, (aS s c).2.1 + (aF (aS s c).1 p).2.1, (aS s c).2.2 + (aF (aS s c).1 p).2.2)
theorem aF_ok : ∀ (p : List Nat) {L : List (List Nat)}, tNe L → tNe (p.foldl tadd L) ∧ tA (p.foldl tadd L) = (aF (tA L) p).1 ∧ (p.foldl tadd L).length = L.length + (aF (tA L) p).2.1 ∧ ((p.foldl tadd L).count [49] : Int) = (L.count [49] : Int) + (aF (tA L) p).2.2
  | [], L, hL => ⟨hL, rfl, rfl, (Int.add_zero _).symm⟩
  | c :: p, L, hL => by
    obtain ⟨h1, h2, h3, h4⟩ := aS_ok hL c
    obtain ⟨g1, g2, g3, g4⟩ := aF_ok p h1
    rw [h2] at g2 g3 g4
    refine ⟨g1, g2, ?_, ?_⟩
    · show (p.foldl tadd (tadd L c)).length = L.length + ((aS (tA L) c).2.1 + (aF (aS (tA L) c).1 p).2.1)
      rw [g3, h3]
      omega
    · show ((p.foldl tadd (tadd L c)).count [49] : Int) = (L.count [49] : Int) + ((aS (tA L) c).2.2 + (aF (aS (tA L) c).1 p).2.2)
      rw [g4, h4]
      omega
theorem tA_lt (L : List (List Nat)) : (tA L).1 < 5 := by
  unfold tA
  split
  · have := kN_lt ‹Nat›
    show kN _ < 5
    omega
  · decide
/-- a piece adds a token, "a1" two; all but one are 1s -/
theorem aF_tab : ∀ (κ : Fin 5) (o : Bool) (i : Fin 15), (aF (κ.val, o) (sxB i.val)).2.1 ≤ (if i.val = 14 then 2 else 1) ∧ ((aF (κ.val, o) (sxB i.val)).2.1 : Int) ≤ (aF (κ.val, o) (sxB i.val)).2.2 + 1 := by decide +kernel
theorem piece {L : List (List Nat)} (hL : tNe L) {i : Nat} (hi : i < 15) : tNe ((sxB i).foldl tadd L) ∧ ((sxB i).foldl tadd L).length ≤ L.length + (if i = 14 then 2 else 1) ∧ (((sxB i).foldl tadd L).length : Int) - (((sxB i).foldl tadd L).count [49] : Int) ≤ (L.length : Int) - (L.count [49] : Int) + 1 := by
  obtain ⟨h1, -, h3, h4⟩ := aF_ok (sxB i) hL
  obtain ⟨t1, t2⟩ := aF_tab ⟨(tA L).1, tA_lt L⟩ (tA L).2 ⟨i, hi⟩
  have e : ((⟨(tA L).1, tA_lt L⟩ : Fin 5).val, (tA L).2) = tA L := rfl
  rw [e] at t1 t2
  refine ⟨h1, by rw [h3]; exact Nat.add_le_add_left t1 _, ?_⟩
  have t2 : ((aF (tA L) (sxB i)).2.1 : Int) ≤ (aF (tA L) (sxB i)).2.2 + 1 := t2
  rw [h3, h4]
  push_cast
  omega
/-- the rest of a line -/
theorem pieces : ∀ (r : List Nat) {L : List (List Nat)}, tNe L → (∀ i ∈ r, i < 15) → tNe ((r.map sxB).flatten.foldl tadd L) ∧ ((r.map sxB).flatten.foldl tadd L).length ≤ L.length + r.length + r.count 14 ∧ (((r.map sxB).flatten.foldl tadd L).length : Int) - (((r.map sxB).flatten.foldl tadd L).count [49] : Int) ≤ (L.length : Int) - (L.count [49] : Int) + r.length
  | [], L, hL, _ => ⟨hL, Nat.le_refl _, by show (L.length : Int) - _ ≤ _; simp⟩
  | i :: r, L, hL, h => by
    obtain ⟨p1, p2, p3⟩ := piece hL (h i List.mem_cons_self)
    obtain ⟨q1, q2, q3⟩ := pieces r p1 (fun j hj => h j (List.mem_cons_of_mem _ hj))
    have e : ((i :: r).map sxB).flatten.foldl tadd L = (r.map sxB).flatten.foldl tadd ((sxB i).foldl tadd L) := by
      rw [List.map_cons, List.flatten_cons, List.foldl_append]
    rw [e]
    refine ⟨q1, ?_, ?_⟩
    · rw [List.length_cons, List.count_cons]
      by_cases h14 : i = 14
      · rw [if_pos h14] at p2
        rw [if_pos (by rw [h14]; rfl)]
        omega
      · rw [if_neg h14] at p2
        omega
    · rw [List.length_cons]
      push_cast
      omega
/-- the tokens of a line of pieces -/
theorem line_tks {h : Nat} {r : List Nat} (hh : h < 2) (hr : ∀ i ∈ r, i < 15) : (tks (sxB h ++ (sxB 2 ++ (r.map sxB).flatten))).length ≤ 2 + r.length + r.count 14 ∧ ((tks (sxB h ++ (sxB 2 ++ (r.map sxB).flatten))).length : Int) - ((tks (sxB h ++ (sxB 2 ++ (r.map sxB).flatten))).count [49] : Int) ≤ 2 + r.length := by
  unfold tks
  rw [List.foldl_append, List.foldl_append]
  have h0 : ∀ h : Fin 2, tNe ((sxB 2).foldl tadd ((sxB h.val).foldl tadd [])) ∧ ((sxB 2).foldl tadd ((sxB h.val).foldl tadd [])).length = 2 ∧ ((sxB 2).foldl tadd ((sxB h.val).foldl tadd [])).count [49] = 0 := by
    unfold tNe
    decide +kernel
  obtain ⟨a1, a2, a3⟩ : tNe ((sxB 2).foldl tadd ((sxB h).foldl tadd [])) ∧ ((sxB 2).foldl tadd ((sxB h).foldl tadd [])).length = 2 ∧ ((sxB 2).foldl tadd ((sxB h).foldl tadd [])).count [49] = 0 := h0 ⟨h, hh⟩
  obtain ⟨b1, b2, b3⟩ := pieces r a1 hr
  rw [a2] at b2 b3
  rw [a3] at b3
  exact ⟨b2, by omega⟩
theorem rev49 (x : List Nat) : (x.reverse == [49]) = (x == [49]) := by
  rw [Bool.eq_iff_iff, beq_iff_eq, beq_iff_eq]
  constructor
  · intro h
    have := congrArg List.reverse h
    rw [List.reverse_reverse] at this
    exact this
  · intro h
    rw [h]
    rfl
theorem count_rev : ∀ l : List (List Nat), (l.map List.reverse).count [49] = l.count [49]
  | [] => rfl
  | x :: l => by
    rw [List.map_cons, List.count_cons, List.count_cons, count_rev l, rev49]
theorem tTx_count (bs : List Nat) : (tTx bs).count [49] = (tks bs).count [49] := by
  unfold tTx
  rw [List.count_reverse, count_rev]
abbrev W9 : List (List Nat) := [[32], [97], [49], [97], [49], [97], [49], [97], [49]]
abbrev W11 : List (List Nat) := [[32], [97], [49], [97], [49], [97], [49], [97], [49], [97], [49]]
theorem line_tab : ∀ (h : Fin 2) (j : Fin 5) (i : Fin 15), (11 ≤ (tTx (sxB h.val ++ (sxB 2 ++ ((((List.replicate 5 14).set j.val i.val).map sxB).flatten)))).length → List.Sublist W9 (tTx (sxB h.val ++ (sxB 2 ++ ((((List.replicate 5 14).set j.val i.val).map sxB).flatten))))) ∧ (12 ≤ (tTx (sxB h.val ++ (sxB 2 ++ ((((List.replicate 5 14).set j.val i.val).map sxB).flatten)))).length → List.Sublist W11 (tTx (sxB h.val ++ (sxB 2 ++ ((((List.replicate 5 14).set j.val i.val).map sxB).flatten))))) := by decide +kernel
theorem five {r : List Nat} (h5 : r.length = 5) (h4 : 4 ≤ r.count 14) (hr : ∀ i ∈ r, i < 15) : ∃ (j : Fin 5) (i : Fin 15), r = (List.replicate 5 14).set j.val i.val := by
  match r, h5 with
  | [a, b, c, d, e], _ =>
    have ha := hr a (by simp)
    have hb := hr b (by simp)
    have hc := hr c (by simp)
    have hd := hr d (by simp)
    have he := hr e (by simp)
    simp only [List.count_cons, List.count_nil] at h4
    by_cases qa : a = 14 <;> by_cases qb : b = 14 <;> by_cases qc : c = 14 <;> by_cases qd : d = 14 <;> by_cases qe : e = 14 <;> simp [qa, qb, qc, qd, qe] at h4 <;> first
      | (refine ⟨0, ⟨a, ha⟩, ?_⟩; simp [qa, qb, qc, qd, qe]; done)
      | (refine ⟨1, ⟨b, hb⟩, ?_⟩; simp [qa, qb, qc, qd, qe]; done)
      | (refine ⟨2, ⟨c, hc⟩, ?_⟩; simp [qa, qb, qc, qd, qe]; done)
      | (subst qa; subst qb; subst qc; subst qe; exact ⟨⟨3, by decide⟩, ⟨d, hd⟩, rfl⟩)
      | (subst qa; subst qb; subst qc; subst qd; exact ⟨⟨4, by decide⟩, ⟨e, he⟩, rfl⟩)
      | omega
/-- what is known of a line's tokens -/
theorem line_facts {bs : List Nat} (h : zPline bs) : (tTx bs).length ≤ 12 ∧ (9 ≤ (tTx bs).length → List.Sublist [[49], [49]] (tTx bs)) ∧ (11 ≤ (tTx bs).length → List.Sublist W9 (tTx bs)) ∧ (12 ≤ (tTx bs).length → List.Sublist W11 (tTx bs)) := by
  obtain ⟨k, hk, hz⟩ := h
  match k, hk, hz with
  | 0, _, hz =>
    cases hz
    exact ⟨by decide, fun h => absurd h (by decide), fun h => absurd h (by decide), fun h => absurd h (by decide)⟩
  | 1, _, hz =>
    obtain ⟨a, ha, rfl⟩ := hz
    have : ∀ a : Fin 2, (tTx (sxB a.val)).length ≤ 1 := by decide +kernel
    have := this ⟨a, ha⟩
    have this : (tTx (sxB a)).length ≤ 1 := this
    exact ⟨by omega, fun h => by omega, fun h => by omega, fun h => by omega⟩
  | k + 2, hk, hz =>
    obtain ⟨a, r, ha, hrk, hr, rfl, -⟩ := hz
    obtain ⟨l1, l2⟩ := line_tks ha hr
    have hlen : (tTx (sxB a ++ (sxB 2 ++ (r.map sxB).flatten))).length = (tks (sxB a ++ (sxB 2 ++ (r.map sxB).flatten))).length := by
      unfold tTx
      rw [List.length_reverse, List.length_map]
    have hcnt := tTx_count (sxB a ++ (sxB 2 ++ (r.map sxB).flatten))
    have hc14 : r.count 14 ≤ r.length := List.count_le_length
    refine ⟨by omega, fun h9 => ?_, fun h11 => ?_, fun h12 => ?_⟩
    · exact (List.replicate_sublist_iff (n := 2) (a := [49])).mpr (by omega)
    · obtain ⟨j, i, e⟩ := five (by omega) (by omega) hr
      rw [e] at h11 ⊢
      exact (line_tab ⟨a, ha⟩ j i).1 h11
    · obtain ⟨j, i, e⟩ := five (by omega) (by omega) hr
      rw [e] at h12 ⊢
      exact (line_tab ⟨a, ha⟩ j i).2 h12
