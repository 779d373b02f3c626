/-! more steps: groupSlots, textByte, setCosts, feed -/
theorem st_groupSlots : zStp 1689 := by
  intro G F I cells slots b L xs i rmG hG hS0 hR hfr hlo hce hsl hL hL2 hi N n hWf hr h kk
  have hslot := zsc_rg xs (i + 1)
  obtain ⟨bb, hbb, hbf⟩ : ∃ bb, zFm F bb ∧ (0 ≤ zsc xs (i + 1) → zsc xs (i + 1) < I 0 8 → bb = 26 + 7 * (zsc xs (i + 1)).toNat) := by
    by_cases q : 0 ≤ zsc xs (i + 1) ∧ zsc xs (i + 1) < I 0 8
    · exact ⟨_, zFm.gr hL.m.c (zsc xs (i + 1)).toNat (by have := h.2.2.2.2.2.2.1; omega), fun _ _ => rfl⟩
    · exact ⟨15, zFm.at hL.m.c, fun a b => absurd ⟨a, b⟩ q⟩
  refine w_L_groupSlots (Inv := zInv) hG hS0 hR hfr hlo hce hsl hL hL2 hi (c_L_groupSlots hL (c_X3_groupSlots hL.m.c hr hbb hslot h.2.2.2.2.2.2.1 (fun _ a b => hbf a b)) (fun r I' q => ?_) (fun E I' q => ?_)) (fun K a b => z_widen (by omega) (by omega) hR (by omega) (by omega) (kk K a b))
  · clear kk hce hsl
    generalize zsc xs (i + 1) = slot at *
    refine ⟨_, q.2.1, hr _ _, ?_⟩
    obtain ⟨c, -, rfl⟩ := q
    have G := h.2.2.2.2.2
    have hJ := i_129 h (I' bb 0)
    have hr2 := zRg_up (k := 129) (i := 0) (v := I' bb 0) hr (hr _ _)
    have g1 : zup I' 129 0 (I' bb 0) 110 18 ≠ 0 := by rw [z129 (by decide), ← G.1.1]; exact c.1
    have G3 := G.2.2.2 (by have := G.1.2; have := c.1; omega)
    have c2 : 0 ≤ slot ∧ slot < zup I' 129 0 (I' bb 0) 110 19 := by rw [z129 (by decide), ← G3.1]; exact c.2
    have e8 := G3.2.2 slot.toNat (by omega)
    rw [show ((slot.toNat : Nat) : Int) = slot by omega] at e8
    have eb := hbf c.2.1 c.2.2
    exact zRead hr2 hJ (by decide) (c_X4_groupSlots hL.m hr2 hslot hJ.2.2.2.2.2.2.2.1) (by rw [if_pos g1, if_pos c2, z129 (by decide), eb]; exact e8.symm) (hr _ _) (fun q => nomatch q) (by rw [if_pos g1, if_pos c2]) (fun _ => zup_at _ _ _ _)
  · clear kk hce hsl
    generalize zsc xs (i + 1) = slot at *
    obtain ⟨rfl, q⟩ := q
    have G := h.2.2.2.2.2
    rcases q with ⟨rfl, c⟩ | ⟨rfl, c1, c⟩
    · refine Or.inl ⟨rfl, ?_⟩
      have g1 : ¬ I' 110 18 ≠ 0 := by rw [← G.1.1]; exact c
      exact zRead hr h (by decide) (c_X4_groupSlots hL.m hr hslot G.2.2.1) (if_neg g1) (by decide) (fun q => nomatch q) (if_neg g1) (fun q => nomatch q)
    · refine Or.inr ⟨rfl, ?_⟩
      have g1 : I' 110 18 ≠ 0 := by rw [← G.1.1]; exact c1
      have G3 := G.2.2.2 (by have := G.1.2; omega)
      have c2 : ¬ (0 ≤ slot ∧ slot < I' 110 19) := by rw [← G3.1]; exact c
      exact zRead hr h (by decide) (c_X4_groupSlots hL.m hr hslot G.2.2.1) (by rw [if_pos g1, if_neg c2]) (by decide) (fun q => nomatch q) (by rw [if_pos g1, if_neg c2]) (fun q => nomatch q)
set_option maxHeartbeats 4000000 in
theorem st_textByte : zStp 997 := by
  intro G F I cells slots b L xs i rmG hG hS0 hR hfr hlo hce hsl hL hL2 hi N n hWf hr h kk
  have hslot := zsc_rg xs (i + 1)
  have hix := zsc_rg xs (i + 2)
  refine w_L_textByte (Inv := zInv) hG hS0 hR hfr hlo hce hsl hL hL2 hi (c_L_textByte hL (c_X3_textByte hL.m.c hr hslot hix (p_n h).1 (fun _ a b => p_ord h a b) (fun _ a b x => by
    obtain ⟨s, hs1, hs⟩ := r_slot h a b
    rw [hs1] at x ⊢
    rcases e_text h hs with q | q
    · exact absurd q.1 x
    · have := rPl_C h.1 q.2.2.1
      unfold zTk at this
      omega)) (fun r I' q => ?_) (fun E I' q => ?_)) (fun K a b => z_widen (by omega) (by omega) hR (by omega) (by omega) (kk K a b))
  · clear kk hce hsl
    generalize zsc xs (i + 1) = slot at *
    generalize zsc xs (i + 2) = ix at *
    refine ⟨_, q.2.1, by split <;> first | exact hr _ _ | decide, ?_⟩
    obtain ⟨c, -, rfl⟩ := q
    obtain ⟨s, rfl, hs⟩ := r_slot h c.1.1 c.1.2
    have hw : zRn (if I' 18 (I' 16 s) = (-1) then (-1) else I' 5 (I' 7 (I' 18 (I' 16 s)) + ix)) := by split <;> first | exact hr _ _ | decide
    have key : (I' 121 s = (-1) ∨ 0 ≤ ix ∧ ix < I' 117 (I' 121 s)) ∧ (if I' 121 s = (-1) then (-1) else I' 113 (I' 121 s / 30 * 30 + I' 116 (I' 121 s) + ix)) = (if I' 18 (I' 16 s) = (-1) then (-1) else I' 5 (I' 7 (I' 18 (I' 16 s)) + ix)) := by
      rcases e_text h hs with q | q
      · exact ⟨Or.inl q.2, by rw [if_pos q.1, if_pos q.2]⟩
      · have c2 : 0 ≤ ix ∧ ix < I' 8 (I' 18 (I' 16 s)) := by
          rcases c.2 with r | r
          · exact absurd r q.1
          · exact r
        exact ⟨Or.inr (by rw [← q.2.2.2.2.1]; exact c2), by rw [if_neg q.1, if_neg q.2.1]; exact (q.2.2.2.2.2 ix c2.1 c2.2).symm⟩
    generalize (if I' 18 (I' 16 s) = (-1) then (-1) else I' 5 (I' 7 (I' 18 (I' 16 s)) + ix)) = w at *
    have hJ := i_129 h w
    have hr2 := zRg_up (k := 129) (i := 0) (v := w) hr hw
    have c2 : (0 ≤ (s : Int) ∧ (s : Int) < zup I' 129 0 w 118 0) ∧ (zup I' 129 0 w 121 s = (-1) ∨ 0 ≤ ix ∧ ix < zup I' 129 0 w 117 (zup I' 129 0 w 121 s)) := ⟨by rw [← e_15 hJ]; exact c.1, by rw [z129c (by decide), z129c (by decide)]; exact key.1⟩
    exact zRead hr2 hJ (by decide) (c_X4_textByte hL.m hr2 hslot hix (p_n hJ).2 (fun _ _ _ x => by
      rcases e_text hJ hs with q | q
      · exact absurd q.2 x
      · exact rPl_T hJ.1 q.2.2.2.1)) (by rw [if_pos c2, z129c (c := 121) (by decide), z129c (c := 113) (by decide), z129c (c := 116) (by decide)]; exact key.2) hw (fun q => nomatch q) (if_pos c2) (fun _ => zup_at _ _ _ _)
  · clear kk hce hsl
    generalize zsc xs (i + 1) = slot at *
    generalize zsc xs (i + 2) = ix at *
    refine ⟨q.2.1, ?_⟩
    obtain ⟨rfl, -, c⟩ := q
    have c2 : ¬ ((0 ≤ slot ∧ slot < I' 118 0) ∧ (I' 121 slot = (-1) ∨ 0 ≤ ix ∧ ix < I' 117 (I' 121 slot))) := fun r => by
      have r1 := r.1
      rw [← e_15 h] at r1
      obtain ⟨s, rfl, hs⟩ := r_slot h r1.1 r1.2
      refine c ⟨r1, ?_⟩
      rcases e_text h hs with q | q
      · exact Or.inl q.1
      · rcases r.2 with y | y
        · exact absurd y q.2.1
        · exact Or.inr (by rw [q.2.2.2.2.1]; exact y)
    exact zRead hr h (by decide) (c_X4_textByte hL.m hr hslot hix (p_n h).2 (fun _ a b x => by
      obtain ⟨s, rfl, hs⟩ := r_slot h a (by rw [e_15 h]; exact b)
      rcases e_text h hs with q | q
      · exact absurd q.2 x
      · exact rPl_T h.1 q.2.2.2.1)) (if_neg c2) (by decide) (fun q => nomatch q) (if_neg c2) (fun q => nomatch q)
set_option maxHeartbeats 4000000 in
theorem st_setCosts : zStp 577 := by
  intro G F I cells slots b L xs i rmG hG hS0 hR hfr hlo hce hsl hL hL2 hi N n hWf hr h kk
  have hnc := zsc_rg xs (i + 1)
  have hns := zsc_rg xs (i + 2)
  have hnf := zsc_rg xs (i + 3)
  refine w_L_setCosts (Inv := zInv) hG hS0 hR hfr hlo hce hsl hL hL2 hi (c_L_setCosts hL (c_X3_setCosts hL.m.c hr hnc hns hnf) (fun r I' q => ?_) (fun E I' q => ?_)) (fun K a b => z_widen (by omega) (by omega) hR (by omega) (by omega) (kk K a b))
  · clear kk hce hsl
    generalize zsc xs (i + 1) = nc at *
    generalize zsc xs (i + 2) = ns at *
    generalize zsc xs (i + 3) = nf at *
    have hz : (if nc ≠ I 10 1 ∨ ns ≠ I 10 2 ∨ nf ≠ I 10 3 then (1 : Int) else 0) = 0 ∨ (if nc ≠ I 10 1 ∨ ns ≠ I 10 2 ∨ nf ≠ I 10 3 then (1 : Int) else 0) = 1 := by split <;> simp
    refine ⟨_, q.2.1, hz, ?_⟩
    obtain ⟨c, -, hI⟩ := q
    have C := h.2.2.1
    have ew : (if nc ≠ I 110 10 ∨ ns ≠ I 110 11 ∨ nf ≠ I 110 12 then (1 : Int) else 0) = (if nc ≠ I 10 1 ∨ ns ≠ I 10 2 ∨ nf ≠ I 10 3 then (1 : Int) else 0) := by rw [C.1.2.2, C.2.1.2.2, C.2.2.2.2]
    generalize (if nc ≠ I 10 1 ∨ ns ≠ I 10 2 ∨ nf ≠ I 10 3 then (1 : Int) else 0) = w at *
    have hr1 : zRg I' := by
      rw [hI]
      exact zRg_up (zRg_up (zRg_up (zRg_up hr (by decide)) hnc) hns) hnf
    have hr2 := zRg_up (k := 129) (i := 0) (v := w) hr1 (by omega)
    have h1 : rR I (zup I' 129 0 w) N n := by
      rw [hI]
      exact rR_c rEA.rfl (rEB_of fun c c1 c9 => by rw [z129c (by omega)]; exact zcoA_o (A := I) (nc := nc) (ns := ns) (nf := nf) (by omega)) h
    have h2 := r_cost h1 (nc := nc) (ns := ns) (nf := nf) c.1 c.2.1 c.2.2
    have em : ∀ j : Int, zup I' 129 0 w 110 j = I 110 j := fun j => by
      rw [z129 (by decide), hI]
      exact congrFun (zcoA_o (A := I) (nc := nc) (ns := ns) (nf := nf) (c := 110) (by decide)) j
    refine zPsI (c_X4_setCosts hL.m hr2 hnc hns hnf) ?_ (by omega) (fun _ => hz) ?_ ?_ ?_ ?_
    · rw [if_pos c, em, em, em]
      exact ew
    · rw [if_pos c, zup_i (by decide), zup_i (by decide), zup_i (by decide), zup_i (by decide), zup_at]
    · intro _
      rw [if_pos c, zup_k (by decide), zup_k (by decide), zup_k (by decide), zup_k (by decide), zup_k (by decide), zup_at]
    · rw [if_pos c]
      exact zRg_up (zRg_up (zRg_up (zRg_up (zRg_up hr2 (by decide)) hnc) hns) hnf) (by decide)
    · rw [if_pos c]
      refine ⟨N, n, rR_c (A := zcoA I nc ns nf) ?_ rEB.rfl h2⟩
      have o : ∀ c : Nat, c < 110 → zup (zup (zup (zup (zup (zup I' 129 0 w) 110 0 0) 110 10 nc) 110 11 ns) 110 12 nf) 110 18 0 c = zcoA I nc ns nf c := fun c c1 => by
        rw [zup_c (by omega), zup_c (by omega), zup_c (by omega), zup_c (by omega), zup_c (by omega), z129c (by omega), hI]
        rfl
      exact rEA_of (fun c c1 _ _ _ _ _ => o c c1) (fun j _ _ => by rw [o 10 (by decide)])
  · clear kk hce hsl
    generalize zsc xs (i + 1) = nc at *
    generalize zsc xs (i + 2) = ns at *
    generalize zsc xs (i + 3) = nf at *
    refine ⟨q.2.1, ?_⟩
    obtain ⟨rfl, -, c⟩ := q
    refine zPsI (c_X4_setCosts hL.m hr hnc hns hnf) (if_neg c) (by decide) (fun _ => Or.inl rfl) ?_ (fun q => nomatch q) ?_ ?_
    · rw [if_neg c, zup_at]
    · rw [if_neg c]
      exact zRg_up hr (by decide)
    · rw [if_neg c]
      exact ⟨N, n, i_110 h 1⟩
