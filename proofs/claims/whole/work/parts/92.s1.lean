/-! more steps -/
section SEM3
variable {F : zFr} {I J : zStore} {N n : Nat}
theorem zPsI {y : MethodName} {cc : ByteArray} {mL : Nat} {ret : Option FieldType} {rm : Room} {args : List Value} {bo : Bool} {k va w : Int} {K : zStore}
    (hm : ∀ (l : Launch) (D : va_G) (cs : Nat → ClassId), l.stackTraces = false → zMt l y cc mL ret rm D cs F J (.ref (F.1 110) :: args) (fun r K' => r = some (.int (zI va)) ∧ K' = K)) (ew : va = w) (hw : zRn w) (hb : bo = true → w = 0 ∨ w = 1) (e1 : K 110 0 = k) (e2 : k = 0 → K 129 0 = w) (hr : zRg K) (hI : zInv K) : zPs y cc mL ret rm F args bo zInv k J := by
  subst ew
  refine ⟨_, hm, fun r K' q => ?_⟩
  obtain ⟨q1, rfl⟩ := q
  exact ⟨va, q1, hw, hb, e1, e2, hr, hI⟩
theorem rEB_of (g : ∀ c, 110 ≤ c → c < 124 → J c = I c) : rEB I J := fun c j h1 h2 _ => by rw [g c h1 h2]
theorem rEA_of (g : ∀ c, c < 110 → c ≠ 11 → c ≠ 12 → c ≠ 13 → c ≠ 14 → c ≠ 10 → J c = I c) (g0 : ∀ j : Int, j ≠ 6 → j ≠ 7 → J 10 j = I 10 j) : rEA I J := fun c j h1 h2 h3 h4 h5 h6 => by
  by_cases e : c = 10
  · subst e
    rcases h6 with q | q
    · exact absurd rfl q
    · exact g0 j q.1 q.2
  · rw [g c h1 h2 h3 h4 h5 e]
end SEM3
theorem p_fr {A B : zStore} {N n : Nat} (h : rR A B N n) {l : Int} (a : 0 ≤ l) (b : l < B 110 3) : 0 ≤ B 114 l ∧ B 114 l ≤ 30 ∧ ∀ t : Int, 0 ≤ t → t < B 114 l → zmT B (30 * l + t) := by
  rw [← e_2 h] at b
  have t0 := p_tok h a b
  obtain ⟨k, rfl, hk⟩ := r_line h a b
  refine ⟨by omega, by omega, fun t t1 t2 => ?_⟩
  obtain ⟨j, rfl⟩ : ∃ j : Nat, t = j := ⟨t.toNat, by omega⟩
  rw [Int.mul_comm 30]
  exact rPl_T h.1 (r_pl h.1 hk (by omega))
set_option maxHeartbeats 4000000 in
theorem st_bits : zStp 1523 := by
  intro G F I cells slots b L xs i rmG hG hS0 hR hfr hlo hce hsl hL hL2 hi N n hWf hr h kk
  refine w_L_bits (Inv := zInv) hG hS0 hR hfr hlo hce hsl hL hL2 hi ⟨_, c_X3_bits hL.m.c hr h.2.2.2.1.1.1 h.2.2.2.1.1.2.2 h.1.1.1 h.1.1.2.2 (p_j h) (p_Sl h) (p_Ln h) (p_Tks h), fun r J q => ?_⟩ (fun K a b => z_widen (by omega) (by omega) hR (by omega) (by omega) (kk K a b))
  obtain ⟨q1, rfl⟩ := q
  exact ⟨zb1 J n + zb2 J N, q1, by have := p_bb h; rw [e_bits h]; omega, _, c_X4_bits hL.m hr hWf (p_Bt h) (by have := p_bb h; omega), fun r2 K q2 => ⟨q2.1.trans (by rw [e_bits h]), by rw [q2.2]; exact zRg_up hr (by decide), N, n, by rw [q2.2]; exact i_110 h 0⟩⟩
set_option maxHeartbeats 4000000 in
theorem st_saving : zStp 1536 := by
  intro G F I cells slots b L xs i rmG hG hS0 hR hfr hlo hce hsl hL hL2 hi N n hWf hr h kk
  refine w_L_saving (Inv := zInv) hG hS0 hR hfr hlo hce hsl hL hL2 hi ⟨_, c_X3_saving hL.m.c hr h.2.2.2.1.1.1 h.2.2.2.1.1.2.2 h.1.1.1 h.1.1.2.2 (p_j h) (p_Sl h) (p_Ln h) (p_Tks h) (fun l hl => by have := (h.1.2.1 l hl).1; omega) (by have := p_bb h; rw [e_bits h]; omega), fun r J q => ?_⟩ (fun K a b => z_widen (by omega) (by omega) hR (by omega) (by omega) (kk K a b))
  obtain ⟨q1, rfl⟩ := q
  exact ⟨(if zcow J N = 0 then FP.dconst0 else zsav (zb1 J n + zb2 J N) (zcow J N)), q1, _, c_X4_saving hL.m hr hWf (p_Bt h) (by have := p_bb h; omega) (p_ow h), fun r2 K q2 => ⟨q2.1.trans (by rw [e_sav h]), by rw [q2.2]; exact zRg_up hr (by decide), N, n, by rw [q2.2]; exact i_110 h 0⟩⟩
set_option maxHeartbeats 4000000 in
theorem st_digest : zStp 1745 := by
  intro G F I cells slots b L xs i rmG hG hS0 hR hfr hlo hce hsl hL hL2 hi N n hWf hr h kk
  refine w_L_digest (Inv := zInv) hG hS0 hR hfr hlo hce hsl hL hL2 hi ⟨_, c_X3_digest hL.m.c hr h.1.1.1 h.1.1.2.2 (p_Sz h) h.2.2.2.1.1.1 h.2.2.2.1.1.2.2 (p_Sl h), fun r J q => ?_⟩ (fun K a b => z_widen (by omega) (by omega) hR (by omega) (by omega) (kk K a b))
  obtain ⟨q1, rfl⟩ := q
  exact ⟨zdig J N n, q1, _, c_X4_digest hL.m hr h.1.1.2.1 h.1.1.2.2 h.2.2.2.1.1.2.1 h.2.2.2.1.1.2.2 (p_mk h) (fun l a b => by obtain ⟨k, rfl⟩ : ∃ k : Nat, l = k := ⟨l.toNat, by omega⟩; have := (h.1.2.1 k (by omega)).1; omega) (fun slot hs => ⟨p_HU h hs, (by rcases e_text h hs with q | q; (exact fun x => absurd q.2 x); (exact fun _ => rPl_b h.1 q.2.2.2.1))⟩), fun r2 K q2 => ⟨q2.1.trans (by rw [e_dig h]), by rw [q2.2]; exact zRg_up hr (by decide), N, n, by rw [q2.2]; exact i_110 h 0⟩⟩
set_option maxHeartbeats 4000000 in
theorem st_sameAtFront : zStp 509 := by
  intro G F I cells slots b L xs i rmG hG hS0 hR hfr hlo hce hsl hL hL2 hi N n hWf hr h kk
  have hline := zsc_rg xs (i + 1)
  have htoken := zsc_rg xs (i + 2)
  refine w_L_sameAtFront (Inv := zInv) hG hS0 hR hfr hlo hce hsl hL hL2 hi (c_L_sameAtFront hL (c_X3_sameAtFront hL.m.c hr hline htoken (p_N h).1 (fun l a b => by have := p_tok h a b; omega)) (fun r I' q => ?_) (fun E I' q => ?_)) (fun K a b => z_widen (by omega) (by omega) hR (by omega) (by omega) (kk K a b))
  · clear kk hce hsl
    generalize zsc xs (i + 1) = line at *
    generalize zsc xs (i + 2) = token at *
    have hw : zRn (zfront I line token : Nat) := by
      have := fa_first_le (fun t => I 9 (line * 30 + t) != I 9 (token * 30 + t)) (min (I 4 line) (I 4 token)).toNat
      have t1 := p_tok h q.1.1.1 q.1.1.2
      have t2 := p_tok h q.1.2.1 q.1.2.2
      unfold zfront
      omega
    refine ⟨_, q.2.1, hw, ?_⟩
    obtain ⟨c, -, rfl⟩ := q
    have hJ := i_129 h (zfront I' line token : Nat)
    have hr2 := zRg_up (k := 129) (i := 0) (v := (zfront I' line token : Nat)) hr hw
    have c2 : (0 ≤ line ∧ line < zup I' 129 0 (zfront I' line token : Nat) 110 3) ∧ 0 ≤ token ∧ token < zup I' 129 0 (zfront I' line token : Nat) 110 3 := by rw [← e_2 hJ]; exact c
    exact zRead hr2 hJ (by decide) (c_X4_sameAtFront hL.m hr2 hline htoken (p_N hJ).2 (fun l a b => p_fr hJ a b)) (by rw [if_pos c2, e_front h c.1.1 c.1.2 c.2.1 c.2.2]; rfl) hw (fun q => nomatch q) (if_pos c2) (fun _ => zup_at _ _ _ _)
  · clear kk hce hsl
    generalize zsc xs (i + 1) = line at *
    generalize zsc xs (i + 2) = token at *
    refine ⟨q.2.1, ?_⟩
    obtain ⟨rfl, -, c⟩ := q
    have c2 : ¬ ((0 ≤ line ∧ line < I' 110 3) ∧ 0 ≤ token ∧ token < I' 110 3) := by rw [← e_2 h]; exact c
    exact zRead hr h (by decide) (c_X4_sameAtFront hL.m hr hline htoken (p_N h).2 (fun l a b => p_fr h a b)) (if_neg c2) (by decide) (fun q => nomatch q) (if_neg c2) (fun q => nomatch q)
set_option maxHeartbeats 4000000 in
theorem st_groupOf : zStp 1633 := by
  intro G F I cells slots b L xs i rmG hG hS0 hR hfr hlo hce hsl hL hL2 hi N n hWf hr h kk
  have hline := zsc_rg xs (i + 1)
  refine w_L_groupOf (Inv := zInv) hG hS0 hR hfr hlo hce hsl hL hL2 hi (c_L_groupOf hL (c_X3_groupOf hL.m.c hr hline (p_N h).1) (fun r I' q => ?_) (fun E I' q => ?_)) (fun K a b => z_widen (by omega) (by omega) hR (by omega) (by omega) (kk K a b))
  · clear kk hce hsl
    generalize zsc xs (i + 1) = line at *
    refine ⟨_, q.2.1, hr _ _, ?_⟩
    obtain ⟨c, -, rfl⟩ := q
    have G := h.2.2.2.2.2
    have hJ := i_129 h (I' 24 line)
    have hr2 := zRg_up (k := 129) (i := 0) (v := I' 24 line) hr (hr _ _)
    have g1 : zup I' 129 0 (I' 24 line) 110 18 ≠ 0 := by rw [z129 (by decide), ← G.1.1]; exact c.1
    have c2 : 0 ≤ line ∧ line < zup I' 129 0 (I' 24 line) 110 3 := by rw [← e_2 hJ]; exact c.2
    obtain ⟨l, rfl, hl⟩ := r_line h c.2.1 c.2.2
    have e24 := (G.2.2.2 (by have := G.1.2; have := c.1; omega)).2.1 l hl
    exact zRead hr2 hJ (by decide) (c_X4_groupOf hL.m hr2 hline (p_N hJ).2) (by rw [if_pos g1, if_pos c2, z129 (by decide)]; exact e24.symm) (hr _ _) (fun q => nomatch q) (by rw [if_pos g1, if_pos c2]) (fun _ => zup_at _ _ _ _)
  · clear kk hce hsl
    generalize zsc xs (i + 1) = line at *
    obtain ⟨rfl, q⟩ := q
    have G := h.2.2.2.2.2
    rcases q with ⟨rfl, c⟩ | ⟨rfl, c1, c⟩
    · refine Or.inl ⟨rfl, ?_⟩
      have g1 : ¬ I' 110 18 ≠ 0 := by rw [← G.1.1]; exact c
      exact zRead hr h (by decide) (c_X4_groupOf hL.m hr hline (p_N h).2) (if_neg g1) (by decide) (fun q => nomatch q) (if_neg g1) (fun q => nomatch q)
    · refine Or.inr ⟨rfl, ?_⟩
      have g1 : I' 110 18 ≠ 0 := by rw [← G.1.1]; exact c1
      have c2 : ¬ (0 ≤ line ∧ line < I' 110 3) := by rw [← e_2 h]; exact c
      exact zRead hr h (by decide) (c_X4_groupOf hL.m hr hline (p_N h).2) (by rw [if_pos g1, if_neg c2]) (by decide) (fun q => nomatch q) (by rw [if_pos g1, if_neg c2]) (fun q => nomatch q)
