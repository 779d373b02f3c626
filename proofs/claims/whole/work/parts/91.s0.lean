/-! what the steps mean -/
def zInv (K : zStore) : Prop := ∃ N n, rR K K N n
abbrev zRn (v : Int) : Prop := -2147483648 ≤ v ∧ v < 2147483648
/-- a step of the law, from its first instruction to 1759 -/
def zStp (P : Nat) : Prop := ∀ {G : zCx} {F : zFr} {I : zStore} {cells slots b L : Nat} {xs : Nat → Int32} {i : Int} {rmG : Room} (hG : zOK G "LineLearnerLaw" cL_law 9) (hS0 : zScr G b L xs) (hR : zRoom G rmG) (hfr : 12 ≤ rmG.frames) (hlo : 428 ≤ rmG.locals) (hce : cells + 4 ≤ rmG.cells) (hsl : slots + 1400 ≤ rmG.slots) (hL : zLayL F) (hL2 : L ≤ 2048) (hi : 0 ≤ i ∧ i + 4 ≤ L) {N n : Nat}, zWf F → zRg I → rR I I N n → (∀ K, zInv K → zRg K → zW G F (cells + 4) (slots + 1400) K [(4, .int (zI i)), (3, .ref (F.1 129)), (2, .ref (F.1 110)), (1, .ref (F.1 0)), (0, .ref b)] [] 1759) → zW G F cells slots I [(4, .int (zI i)), (3, .ref (F.1 129)), (2, .ref (F.1 110)), (1, .ref (F.1 0)), (0, .ref b)] [] P
section SEM
variable {F : zFr} {I J : zStore} {N n : Nat}
theorem i_129 (h : rR I I N n) (v : Int) : rR (zup I 129 0 v) (zup I 129 0 v) N n := rR_c (fun c j h1 _ _ _ _ _ => zup_k (by omega)) (fun c j h1 h2 _ => zup_k (by omega)) h
theorem i_110 (h : rR I I N n) (v : Int) : rR (zup I 110 0 v) (zup I 110 0 v) N n := rR_c (fun c j h1 _ _ _ _ _ => zup_k (by omega)) (fun c j h1 h2 h3 => by
  rcases h3 with q | q
  · exact zup_k q
  · exact zup_i q.1) h
theorem z129 {v : Int} {c : Nat} {j : Int} (h : c ≠ 129) : zup I 129 0 v c j = I c j := zup_k h
theorem z129c {v : Int} {c : Nat} (h : c ≠ 129) : zup I 129 0 v c = I c := zup_c h
theorem zRead {y : MethodName} {cc : ByteArray} {mL : Nat} {ret : Option FieldType} {rm : Room} {args : List Value} {bo : Bool} {k va ka w : Int} (hr : zRg J) (h : rR J J N n) (hk : 0 ≤ k ∧ k ≤ 2)
    (hm : ∀ (l : Launch) (D : va_G) (cs : Nat → ClassId), l.stackTraces = false → zMt l y cc mL ret rm D cs F J (.ref (F.1 110) :: args) (fun r K => r = some (.int (zI va)) ∧ K = zup J 110 0 ka)) (ew : va = w) (hw : zRn w) (hb : bo = true → w = 0 ∨ w = 1) (e1 : ka = k) (e2 : k = 0 → J 129 0 = w) : zPs y cc mL ret rm F args bo zInv k J := by
  subst ew
  subst e1
  refine ⟨_, hm, fun r K q => ?_⟩
  obtain ⟨q1, q2⟩ := q
  subst q2
  exact ⟨va, q1, hw, hb, zup_at _ _ _ _, fun q => by rw [zup_k (by decide)]; exact e2 q, zRg_up hr (by omega), N, n, i_110 h ka⟩
end SEM
set_option maxHeartbeats 4000000 in
theorem st_tokenCount : zStp 317 := by
  intro G F I cells slots b L xs i rmG hG hS0 hR hfr hlo hce hsl hL hL2 hi N n hWf hr h kk
  have hline := zsc_rg xs (i + 1)
  refine w_L_tokenCount (Inv := zInv) hG hS0 hR hfr hlo hce hsl hL hL2 hi (c_L_tokenCount hL (c_X3_tokenCount hL.m.c hr hline (p_N h).1) (fun r I' q => ?_) (fun E I' q => ?_)) (fun K a b => z_widen (by omega) (by omega) hR (by omega) (by omega) (kk K a b))
  · clear kk hce hsl
    generalize zsc xs (i + 1) = line at *
    refine ⟨_, q.2.1, hr _ _, ?_⟩
    obtain ⟨c, -, rfl⟩ := q
    have hr2 := zRg_up (k := 129) (i := 0) hr (hr 4 line)
    have c2 : 0 ≤ line ∧ line < zup I' 129 0 (I' 4 line) 110 3 := by rw [z129 (by decide), ← e_2 h]; exact c
    exact zRead hr2 (i_129 h _) (by decide) (c_X4_tokenCount hL.m hr2 hline (by rw [z129 (by decide)]; exact (p_N h).2)) (by rw [if_pos c2, z129 (by decide)]; exact (p_tok h c.1 c.2).2.2) (hr _ _) (fun q => nomatch q) (if_pos c2) (fun _ => zup_at _ _ _ _)
  · clear kk hce hsl
    generalize zsc xs (i + 1) = line at *
    refine ⟨q.2.1, ?_⟩
    obtain ⟨rfl, -, c⟩ := q
    have c2 : ¬ (0 ≤ line ∧ line < I' 110 3) := by rw [← e_2 h]; exact c
    exact zRead hr h (by decide) (c_X4_tokenCount hL.m hr hline (p_N h).2) (if_neg c2) (by decide) (fun q => nomatch q) (if_neg c2) (fun q => nomatch q)
set_option maxHeartbeats 4000000 in
theorem st_tokenKind : zStp 373 := by
  intro G F I cells slots b L xs i rmG hG hS0 hR hfr hlo hce hsl hL hL2 hi N n hWf hr h kk
  have hline := zsc_rg xs (i + 1)
  have htoken := zsc_rg xs (i + 2)
  refine w_L_tokenKind (Inv := zInv) hG hS0 hR hfr hlo hce hsl hL hL2 hi (c_L_tokenKind hL (c_X3_tokenKind hL.m.c hr hline htoken (p_N h).1 (fun _ a b => by have := p_tok h a b; omega)) (fun r I' q => ?_) (fun E I' q => ?_)) (fun K a b => z_widen (by omega) (by omega) hR (by omega) (by omega) (kk K a b))
  · clear kk hce hsl
    generalize zsc xs (i + 1) = line at *
    generalize zsc xs (i + 2) = token at *
    refine ⟨_, q.2.1, hr _ _, ?_⟩
    obtain ⟨c, -, rfl⟩ := q
    have hr2 := zRg_up (k := 129) (i := 0) hr (hr 6 (line * 30 + token))
    have t4 := (p_tok h c.1.1 c.1.2).2.2
    have c2 : (0 ≤ line ∧ line < zup I' 129 0 (I' 6 (line * 30 + token)) 110 3) ∧ 0 ≤ token ∧ token < zup I' 129 0 (I' 6 (line * 30 + token)) 114 line := by rw [z129 (by decide), z129 (by decide), ← e_2 h, t4]; exact c
    exact zRead hr2 (i_129 h _) (by decide) (c_X4_tokenKind hL.m hr2 hline htoken (by rw [z129 (by decide)]; exact (p_N h).2) (fun _ a b => by rw [z129 (by decide)] at b ⊢; rw [← e_2 h] at b; have := p_tok h a b; omega)) (by rw [if_pos c2, z129 (by decide)]; exact (e_kind h c.1.1 c.1.2 c.2.1 c.2.2).1.symm) (hr _ _) (fun q => nomatch q) (if_pos c2) (fun _ => zup_at _ _ _ _)
  · clear kk hce hsl
    generalize zsc xs (i + 1) = line at *
    generalize zsc xs (i + 2) = token at *
    refine ⟨q.2.1, ?_⟩
    obtain ⟨rfl, -, c⟩ := q
    have c2 : ¬ ((0 ≤ line ∧ line < I' 110 3) ∧ 0 ≤ token ∧ token < I' 114 line) := fun r => by
      have r1 := r.1
      rw [← e_2 h] at r1
      have r2 := r.2
      rw [(p_tok h r1.1 r1.2).2.2] at r2
      exact c ⟨r1, r2⟩
    exact zRead hr h (by decide) (c_X4_tokenKind hL.m hr hline htoken (p_N h).2 (fun _ a b => by rw [← e_2 h] at b; have := p_tok h a b; omega)) (if_neg c2) (by decide) (fun q => nomatch q) (if_neg c2) (fun q => nomatch q)
set_option maxHeartbeats 4000000 in
theorem st_tokenStart : zStp 441 := by
  intro G F I cells slots b L xs i rmG hG hS0 hR hfr hlo hce hsl hL hL2 hi N n hWf hr h kk
  have hline := zsc_rg xs (i + 1)
  have htoken := zsc_rg xs (i + 2)
  refine w_L_tokenStart (Inv := zInv) hG hS0 hR hfr hlo hce hsl hL hL2 hi (c_L_tokenStart hL (c_X3_tokenStart hL.m.c hr hline htoken (p_N h).1 (fun _ a b => by have := p_tok h a b; omega)) (fun r I' q => ?_) (fun E I' q => ?_)) (fun K a b => z_widen (by omega) (by omega) hR (by omega) (by omega) (kk K a b))
  · clear kk hce hsl
    generalize zsc xs (i + 1) = line at *
    generalize zsc xs (i + 2) = token at *
    have ek := (e_kind h q.1.1.1 q.1.1.2 q.1.2.1 q.1.2.2).2
    have q21 := q.2.1
    rw [ek] at q21
    refine ⟨_, q21, hr _ _, ?_⟩
    obtain ⟨c, -, rfl⟩ := q
    have hr2 := zRg_up (k := 129) (i := 0) hr (hr 116 (30 * line + token))
    have t4 := (p_tok h c.1.1 c.1.2).2.2
    have c2 : (0 ≤ line ∧ line < zup I' 129 0 (I' 116 (30 * line + token)) 110 3) ∧ 0 ≤ token ∧ token < zup I' 129 0 (I' 116 (30 * line + token)) 114 line := by rw [z129 (by decide), z129 (by decide), ← e_2 h, t4]; exact c
    exact zRead hr2 (i_129 h _) (by decide) (c_X4_tokenStart hL.m hr2 hline htoken (by rw [z129 (by decide)]; exact (p_N h).2) (fun _ a b => by rw [z129 (by decide)] at b ⊢; rw [← e_2 h] at b; have := p_tok h a b; omega)) (by rw [if_pos c2, z129 (by decide)]) (hr _ _) (fun q => nomatch q) (if_pos c2) (fun _ => zup_at _ _ _ _)
  · clear kk hce hsl
    generalize zsc xs (i + 1) = line at *
    generalize zsc xs (i + 2) = token at *
    refine ⟨q.2.1, ?_⟩
    obtain ⟨rfl, -, c⟩ := q
    have c2 : ¬ ((0 ≤ line ∧ line < I' 110 3) ∧ 0 ≤ token ∧ token < I' 114 line) := fun r => by
      have r1 := r.1
      rw [← e_2 h] at r1
      have r2 := r.2
      rw [(p_tok h r1.1 r1.2).2.2] at r2
      exact c ⟨r1, r2⟩
    exact zRead hr h (by decide) (c_X4_tokenStart hL.m hr hline htoken (p_N h).2 (fun _ a b => by rw [← e_2 h] at b; have := p_tok h a b; omega)) (if_neg c2) (by decide) (fun q => nomatch q) (if_neg c2) (fun q => nomatch q)
set_option maxHeartbeats 4000000 in
theorem st_isMerged : zStp 733 := by
  intro G F I cells slots b L xs i rmG hG hS0 hR hfr hlo hce hsl hL hL2 hi N n hWf hr h kk
  have hline := zsc_rg xs (i + 1)
  refine w_L_isMerged (Inv := zInv) hG hS0 hR hfr hlo hce hsl hL hL2 hi (c_L_isMerged hL (c_X3_isMerged hL.m.c hr hline (p_N h).1 (fun _ a b => by exact (p_Ln h _ a (by have := h.1.1.1; omega)).1)) (fun r I' q => ?_) (fun E I' q => ?_)) (fun K a b => z_widen (by omega) (by omega) hR (by omega) (by omega) (kk K a b))
  · clear kk hce hsl
    generalize zsc xs (i + 1) = line at *
    have l0 := p_Ln h line q.1.1 (by have := h.1.1.1; omega)
    refine ⟨_, q.2.1, by omega, ?_⟩
    obtain ⟨c, -, rfl⟩ := q
    obtain ⟨l, rfl, hl⟩ := r_line h c.1 c.2
    have N12 := h.1.1
    have hr2 := zRg_up (k := 129) (i := 0) hr (hr 22 l)
    have c2 : 0 ≤ (l : Int) ∧ (l : Int) < zup I' 129 0 (I' 22 l) 110 3 := by rw [z129 (by decide), ← e_2 h]; exact c
    have m1 := h.2.2.2.2.1.1 l (by omega)
    have zb := zbit_eq (p_mk h) (show l < 12 by omega)
    have z01 := zbit_01 (I' 119 0) l
    exact zRead hr2 (i_129 h _) (by decide) (c_X4_isMerged hL.m hr2 hline) (by
      rw [z129 (by decide), z129 (by decide), zb, m1, ← e_2 h]
      rcases z01 with e | e
      · rw [e, if_neg (fun r => absurd r.2 (by decide))]
      · rw [e, if_pos ⟨c, rfl⟩]) (hr _ _) (fun _ => by omega) (if_pos c2) (fun _ => zup_at _ _ _ _)
  · clear kk hce hsl
    generalize zsc xs (i + 1) = line at *
    refine ⟨q.2.1, ?_⟩
    obtain ⟨rfl, -, c⟩ := q
    have c2 : ¬ (0 ≤ line ∧ line < I' 110 3) := by rw [← e_2 h]; exact c
    exact zRead hr h (by decide) (c_X4_isMerged hL.m hr hline) (if_neg (fun r => c2 r.1)) (by decide) (fun _ => Or.inl rfl) (if_neg c2) (fun q => nomatch q)
set_option maxHeartbeats 4000000 in
theorem st_slotKind : zStp 941 := by
  intro G F I cells slots b L xs i rmG hG hS0 hR hfr hlo hce hsl hL hL2 hi N n hWf hr h kk
  have hslot := zsc_rg xs (i + 1)
  refine w_L_slotKind (Inv := zInv) hG hS0 hR hfr hlo hce hsl hL hL2 hi (c_L_slotKind hL (c_X3_slotKind hL.m.c hr hslot (p_n h).1 (fun _ a b => p_ord h a b)) (fun r I' q => ?_) (fun E I' q => ?_)) (fun K a b => z_widen (by omega) (by omega) hR (by omega) (by omega) (kk K a b))
  · clear kk hce hsl
    generalize zsc xs (i + 1) = slot at *
    refine ⟨_, q.2.1, hr _ _, ?_⟩
    obtain ⟨c, -, rfl⟩ := q
    have hr2 := zRg_up (k := 129) (i := 0) hr (hr 17 (I' 16 slot))
    have c2 : 0 ≤ slot ∧ slot < zup I' 129 0 (I' 17 (I' 16 slot)) 118 0 := by rw [z129 (by decide), ← e_15 h]; exact c
    obtain ⟨s, hs, hs2⟩ := r_slot h c.1 c.2
    have s2 := (r_sl h hs2).2.1.2.2
    rw [r_s0, ← hs] at s2
    exact zRead hr2 (i_129 h _) (by decide) (c_X4_slotKind hL.m hr2 hslot (by rw [z129 (by decide)]; exact (p_n h).2)) (by rw [if_pos c2, z129 (by decide)]; exact s2) (hr _ _) (fun q => nomatch q) (if_pos c2) (fun _ => zup_at _ _ _ _)
  · clear kk hce hsl
    generalize zsc xs (i + 1) = slot at *
    refine ⟨q.2.1, ?_⟩
    obtain ⟨rfl, -, c⟩ := q
    have c2 : ¬ (0 ≤ slot ∧ slot < I' 118 0) := by rw [← e_15 h]; exact c
    exact zRead hr h (by decide) (c_X4_slotKind hL.m hr hslot (p_n h).2) (if_neg c2) (by decide) (fun q => nomatch q) (if_neg c2) (fun q => nomatch q)
set_option maxHeartbeats 4000000 in
theorem st_uses : zStp 1149 := by
  intro G F I cells slots b L xs i rmG hG hS0 hR hfr hlo hce hsl hL hL2 hi N n hWf hr h kk
  have hslot := zsc_rg xs (i + 1)
  refine w_L_uses (Inv := zInv) hG hS0 hR hfr hlo hce hsl hL hL2 hi (c_L_uses hL (c_X3_uses hL.m.c hr hslot (p_n h).1 (fun _ a b => p_ord h a b)) (fun r I' q => ?_) (fun E I' q => ?_)) (fun K a b => z_widen (by omega) (by omega) hR (by omega) (by omega) (kk K a b))
  · clear kk hce hsl
    generalize zsc xs (i + 1) = slot at *
    refine ⟨_, q.2.1, hr _ _, ?_⟩
    obtain ⟨c, -, rfl⟩ := q
    have hr2 := zRg_up (k := 129) (i := 0) hr (hr 21 (I' 16 slot))
    have c2 : 0 ≤ slot ∧ slot < zup I' 129 0 (I' 21 (I' 16 slot)) 118 0 := by rw [z129 (by decide), ← e_15 h]; exact c
    obtain ⟨s, hs, hs2⟩ := r_slot h c.1 c.2
    have s2 := (r_sl h hs2).2.2.2.1
    rw [← hs] at s2
    have eN : (I' 110 3).toNat = N := by have := h.1.1; omega
    exact zRead hr2 (i_129 h _) (by decide) (c_X4_uses hL.m hr2 hslot (by rw [z129 (by decide)]; exact (p_n h).2) (by rw [z129 (by decide)]; exact (p_N h).2)) (by rw [if_pos c2, z129 (by decide), z129c (by decide), eN]; exact s2.symm) (hr _ _) (fun q => nomatch q) (if_pos c2) (fun _ => zup_at _ _ _ _)
  · clear kk hce hsl
    generalize zsc xs (i + 1) = slot at *
    refine ⟨q.2.1, ?_⟩
    obtain ⟨rfl, -, c⟩ := q
    have c2 : ¬ (0 ≤ slot ∧ slot < I' 118 0) := by rw [← e_15 h]; exact c
    exact zRead hr h (by decide) (c_X4_uses hL.m hr hslot (p_n h).2 (p_N h).2) (if_neg c2) (by decide) (fun q => nomatch q) (if_neg c2) (fun q => nomatch q)
set_option maxHeartbeats 4000000 in
theorem st_isOptional : zStp 1205 := by
  intro G F I cells slots b L xs i rmG hG hS0 hR hfr hlo hce hsl hL hL2 hi N n hWf hr h kk
  have hslot := zsc_rg xs (i + 1)
  refine w_L_isOptional (Inv := zInv) hG hS0 hR hfr hlo hce hsl hL hL2 hi (c_L_isOptional hL (c_X3_isOptional hL.m.c hr hslot (p_n h).1 (fun _ a b => p_ord h a b)) (fun r I' q => ?_) (fun E I' q => ?_)) (fun K a b => z_widen (by omega) (by omega) hR (by omega) (by omega) (kk K a b))
  · clear kk hce hsl
    generalize zsc xs (i + 1) = slot at *
    refine ⟨_, q.2.1, by split <;> simp, ?_⟩
    obtain ⟨c, -, rfl⟩ := q
    have hw : (if I' (15 + 6) (I' 16 slot) < I' 15 1 then (1 : Int) else 0) = 0 ∨ (if I' (15 + 6) (I' 16 slot) < I' 15 1 then (1 : Int) else 0) = 1 := by split <;> simp
    obtain ⟨s, hs, hs2⟩ := r_slot h c.1 c.2
    have s2 := (r_sl h hs2).2.2.2.1
    rw [← hs] at s2
    have mk : I' 15 1 = zbc (I' 119 0) := h.2.2.2.1.2.1.2.2.1
    have eN : (I' 110 3).toNat = N := by have := h.1.1; omega
    have ew : (if I' (15 + 6) (I' 16 slot) < I' 15 1 then (1 : Int) else 0) = if zmu (I' 122) 0 slot N < zbc (I' 119 0) then 1 else 0 := by rw [show I' (15 + 6) (I' 16 slot) = zmu (I' 122) 0 slot N from s2, mk]
    generalize (if I' (15 + 6) (I' 16 slot) < I' 15 1 then (1 : Int) else 0) = w at *
    have hr2 := zRg_up (k := 129) (i := 0) (v := w) hr (by omega)
    have c2 : 0 ≤ slot ∧ slot < zup I' 129 0 w 118 0 := by rw [z129 (by decide), ← e_15 h]; exact c
    exact zRead hr2 (i_129 h _) (by decide) (c_X4_isOptional hL.m hr2 hslot (by rw [z129 (by decide)]; exact (p_n h).2) (by rw [z129 (by decide)]; exact (p_N h).2) (by rw [z129 (by decide)]; exact p_mk h)) (by
      rw [ew, z129 (c := 110) (by decide), z129c (c := 122) (by decide), z129 (c := 119) (by decide), eN]
      by_cases e : zmu (I' 122) 0 slot N < zbc (I' 119 0)
      · rw [if_pos e, if_pos ⟨c2, e⟩]
      · rw [if_neg e, if_neg (fun r => e r.2)]) (by omega) (fun _ => hw) (if_pos c2) (fun _ => zup_at _ _ _ _)
  · clear kk hce hsl
    generalize zsc xs (i + 1) = slot at *
    refine ⟨q.2.1, ?_⟩
    obtain ⟨rfl, -, c⟩ := q
    have c2 : ¬ (0 ≤ slot ∧ slot < I' 118 0) := by rw [← e_15 h]; exact c
    exact zRead hr h (by decide) (c_X4_isOptional hL.m hr hslot (p_n h).2 (p_N h).2 (p_mk h)) (if_neg (fun r => c2 r.1)) (by decide) (fun _ => Or.inl rfl) (if_neg c2) (fun q => nomatch q)
set_option maxHeartbeats 4000000 in
theorem st_lineCount : zStp 304 := by
  intro G F I cells slots b L xs i rmG hG hS0 hR hfr hlo hce hsl hL hL2 hi N n hWf hr h kk
  refine w_L_lineCount (Inv := zInv) hG hS0 hR hfr hlo hce hsl hL hL2 hi ⟨_, c_X3_lineCount hL.m.c hr, fun r J q => ?_⟩ (fun K a b => z_widen (by omega) (by omega) hR (by omega) (by omega) (kk K a b))
  obtain ⟨q1, rfl⟩ := q
  exact ⟨J 2 0, q1, hr _ _, _, c_X4_lineCount hL.m hr, fun r2 K q2 => ⟨q2.1.trans (by rw [e_2 h]), by rw [q2.2]; exact zRg_up hr (by decide), N, n, by rw [q2.2]; exact i_110 h 0⟩⟩
set_option maxHeartbeats 4000000 in
theorem st_slotCount : zStp 928 := by
  intro G F I cells slots b L xs i rmG hG hS0 hR hfr hlo hce hsl hL hL2 hi N n hWf hr h kk
  refine w_L_slotCount (Inv := zInv) hG hS0 hR hfr hlo hce hsl hL hL2 hi ⟨_, c_X3_slotCount hL.m.c hr, fun r J q => ?_⟩ (fun K a b => z_widen (by omega) (by omega) hR (by omega) (by omega) (kk K a b))
  obtain ⟨q1, rfl⟩ := q
  exact ⟨J 15 0, q1, hr _ _, _, c_X4_slotCount hL.m hr, fun r2 K q2 => ⟨q2.1.trans (by rw [e_15 h]), by rw [q2.2]; exact zRg_up hr (by decide), N, n, by rw [q2.2]; exact i_110 h 0⟩⟩
section SEM2
variable {A B : zStore} {N n : Nat}
theorem p_HT (h : rR A B N n) {s : Nat} (hs : s < n) : ∀ l : Int, 0 ≤ l → l < B 110 3 → B 122 (12 * (40 * 0 + (s : Int)) + l) ≠ (-1) → (0 ≤ B 122 (12 * (40 * 0 + (s : Int)) + l) ∧ B 122 (12 * (40 * 0 + (s : Int)) + l) < 30) ∧ zmT B (30 * l + B 122 (12 * (40 * 0 + (s : Int)) + l)) := fun l h0 h1 hx => by
  have N12 := h.1.1
  obtain ⟨k, rfl⟩ : ∃ k : Nat, l = k := ⟨l.toNat, by omega⟩
  obtain ⟨t, ht, a1, a2, a3, -⟩ := r_use h (l := k) (by omega) hs hx
  rw [ht, Int.mul_comm 30]
  exact ⟨by omega, rPl_T h.1 a3⟩
theorem e_nrg (h : rR A B N n) {l s : Nat} (hl : l < N) (hs : s < n) : -2147483648 ≤ zmb B l s ∧ zmb B l s < 2147483648 := by
  have s2 := (r_sl h hs).2.1
  rw [r_s0] at s2
  unfold zmb
  by_cases c : B 122 (12 * (40 * 0 + (s : Int)) + l) ≠ (-1) ∧ B 120 s = 1
  · rw [if_pos c]
    obtain ⟨t, ht, a1, -, a3, a4⟩ := r_use h hl hs c.1
    rw [ht, ← e_zno h hl a1]
    have := p_no h hl a1 (by rw [a4, ← s2.2.2]; exact c.2)
    omega
  · rw [if_neg c]
    decide
theorem zmd1_g {I J : zStore} (g : ∀ c, c ≠ 129 → J c = I c) {s : Int} {l : Nat} : ∀ o : Nat, zmd1 J s l o = zmd1 I s l o
  | 0 => by
    simp only [zmd1, g 122 (by decide)]
  | o + 1 => by
    simp only [zmd1, g 122 (by decide), g 117 (by decide), g 116 (by decide), g 113 (by decide), zmd1_g g o]
theorem zmd_g {I J : zStore} (g : ∀ c, c ≠ 129 → J c = I c) {s : Int} : ∀ l : Nat, zmd J s l = zmd I s l
  | 0 => rfl
  | l + 1 => by
    simp only [zmd]
    rw [zmd_g g l, zmd1_g g l]
theorem zmr_g {I J : zStore} (g : ∀ c, c ≠ 129 → J c = I c) {s : Int} : ∀ l : Nat, zmr J s l = zmr I s l
  | 0 => rfl
  | l + 1 => by
    have e : zmb J l s = zmb I l s := by
      unfold zmb zmno
      simp only [g 122 (by decide), g 120 (by decide), g 117 (by decide), g 116 (by decide), g 113 (by decide)]
    simp only [zmr]
    rw [zmr_g g l, e, g 122 (by decide)]
theorem zmd_le (B : zStore) (s : Int) : ∀ l : Nat, 0 ≤ zmd B s l ∧ zmd B s l ≤ l
  | 0 => by simp [zmd]
  | l + 1 => by
    have ih := zmd_le B s l
    have z := zb_bd (zmd1 B s l l)
    simp only [zmd]
    first | omega | (split <;> omega)
theorem zmd_rg (h : rR A B N n) {s : Nat} (hs : s < n) : -2147483648 ≤ zmd B s N ∧ zmd B s N < 2147483648 := by
  have := zmd_le B s N
  have := h.1.1.2.2
  omega
end SEM2
set_option maxHeartbeats 4000000 in
theorem st_tokenAt : zStp 1268 := by
  intro G F I cells slots b L xs i rmG hG hS0 hR hfr hlo hce hsl hL hL2 hi N n hWf hr h kk
  have hline := zsc_rg xs (i + 1)
  have hslot := zsc_rg xs (i + 2)
  refine w_L_tokenAt (Inv := zInv) hG hS0 hR hfr hlo hce hsl hL hL2 hi (c_L_tokenAt hL (c_X3_tokenAt hL.m.c hr hline hslot (p_N h).1 (p_n h).1 (fun _ a b => by have l0 := p_Ln h _ a (by have := h.1.1.1; omega); exact ⟨l0.1, l0.2⟩)) (fun r I' q => ?_) (fun E I' q => ?_)) (fun K a b => z_widen (by omega) (by omega) hR (by omega) (by omega) (kk K a b))
  · clear kk hce hsl
    generalize zsc xs (i + 1) = line at *
    generalize zsc xs (i + 2) = slot at *
    obtain ⟨l, rfl, hl⟩ := r_line h q.1.1.1 q.1.1.2
    obtain ⟨s, rfl, hs⟩ := r_slot h q.1.2.1 q.1.2.2
    refine ⟨_, q.2.1, by rw [e_tok h hl hs]; exact hr _ _, ?_⟩
    obtain ⟨c, -, rfl⟩ := q
    have hJ := i_129 h (zti I' l (I' 16 s))
    have hr2 := zRg_up (k := 129) (i := 0) (v := zti I' l (I' 16 s)) hr (by rw [e_tok h hl hs]; exact hr _ _)
    have c2 : (0 ≤ (l : Int) ∧ (l : Int) < zup I' 129 0 (zti I' l (I' 16 s)) 110 3) ∧ (0 ≤ (s : Int) ∧ (s : Int) < zup I' 129 0 (zti I' l (I' 16 s)) 118 0) := by rw [← e_2 hJ, ← e_15 hJ]; exact c
    exact zRead hr2 hJ (by decide) (c_X4_tokenAt hL.m hr2 hline hslot (p_n hJ).2 (p_N hJ).2) (by rw [if_pos c2, z129c (by decide)]; exact (e_tok h hl hs).symm) (by rw [e_tok h hl hs]; exact hr _ _) (fun q => nomatch q) (if_pos c2) (fun _ => zup_at _ _ _ _)
  · clear kk hce hsl
    generalize zsc xs (i + 1) = line at *
    generalize zsc xs (i + 2) = slot at *
    refine ⟨q.2.1, ?_⟩
    obtain ⟨rfl, -, c⟩ := q
    have c2 : ¬ ((0 ≤ line ∧ line < I' 110 3) ∧ (0 ≤ slot ∧ slot < I' 118 0)) := by rw [← e_2 h, ← e_15 h]; exact c
    exact zRead hr h (by decide) (c_X4_tokenAt hL.m hr hline hslot (p_n h).2 (p_N h).2) (if_neg c2) (by decide) (fun q => nomatch q) (if_neg c2) (fun q => nomatch q)
set_option maxHeartbeats 4000000 in
theorem st_numberAt : zStp 1336 := by
  intro G F I cells slots b L xs i rmG hG hS0 hR hfr hlo hce hsl hL hL2 hi N n hWf hr h kk
  have hline := zsc_rg xs (i + 1)
  have hslot := zsc_rg xs (i + 2)
  refine w_L_numberAt (Inv := zInv) hG hS0 hR hfr hlo hce hsl hL hL2 hi (c_L_numberAt hL (c_X3_numberAt hL.m.c hr hline hslot (p_N h).1 (p_n h).1 (by rw [h.1.1.1]; exact p_Ln h) (fun s a b => p_ord h a b) (fun s a b => by rw [h.1.1.1]; exact p_Nb h a b)) (fun r I' q => ?_) (fun E I' q => ?_)) (fun K a b => z_widen (by omega) (by omega) hR (by omega) (by omega) (kk K a b))
  · clear kk hce hsl
    generalize zsc xs (i + 1) = line at *
    generalize zsc xs (i + 2) = slot at *
    obtain ⟨l, rfl, hl⟩ := r_line h q.1.1.1 q.1.1.2
    obtain ⟨s, rfl, hs⟩ := r_slot h q.1.2.1 q.1.2.2
    refine ⟨_, q.2.1, by rw [e_num h hl hs]; exact e_nrg h hl hs, ?_⟩
    obtain ⟨c, -, rfl⟩ := q
    have hJ := i_129 h (znb I' l (I' 16 s))
    have hr2 := zRg_up (k := 129) (i := 0) (v := znb I' l (I' 16 s)) hr (by rw [e_num h hl hs]; exact e_nrg h hl hs)
    have c2 : (0 ≤ (l : Int) ∧ (l : Int) < zup I' 129 0 (znb I' l (I' 16 s)) 110 3) ∧ (0 ≤ (s : Int) ∧ (s : Int) < zup I' 129 0 (znb I' l (I' 16 s)) 118 0) := by rw [← e_2 hJ, ← e_15 hJ]; exact c
    exact zRead hr2 hJ (by decide) (c_X4_numberAt hL.m hr2 hline hslot (p_n hJ).2 (p_N hJ).2 (fun _ _ _ l9 a b _ x => p_HT hJ hs l9 a b x)) (by rw [if_pos c2]; exact (e_num hJ hl hs).symm) (by rw [e_num h hl hs]; exact e_nrg h hl hs) (fun q => nomatch q) (if_pos c2) (fun _ => zup_at _ _ _ _)
  · clear kk hce hsl
    generalize zsc xs (i + 1) = line at *
    generalize zsc xs (i + 2) = slot at *
    refine ⟨q.2.1, ?_⟩
    obtain ⟨rfl, -, c⟩ := q
    have c2 : ¬ ((0 ≤ line ∧ line < I' 110 3) ∧ (0 ≤ slot ∧ slot < I' 118 0)) := by rw [← e_2 h, ← e_15 h]; exact c
    exact zRead hr h (by decide) (c_X4_numberAt hL.m hr hline hslot (p_n h).2 (p_N h).2 (fun _ a b l l0 l1 _ x => by obtain ⟨s, rfl, hs⟩ := r_slot h a (by rw [e_15 h]; exact b); exact p_HT h hs l l0 l1 x)) (if_neg c2) (by decide) (fun q => nomatch q) (if_neg c2) (fun q => nomatch q)
set_option maxHeartbeats 4000000 in
theorem st_distinct : zStp 1404 := by
  intro G F I cells slots b L xs i rmG hG hS0 hR hfr hlo hce hsl hL hL2 hi N n hWf hr h kk
  have hslot := zsc_rg xs (i + 1)
  refine w_L_distinct (Inv := zInv) hG hS0 hR hfr hlo hce hsl hL hL2 hi (c_L_distinct hL (c_X3_distinct hL.m.c hr hslot (p_n h).1 h.1.1.1 h.1.1.2.2 (p_Ln h)) (fun r I' q => ?_) (fun E I' q => ?_)) (fun K a b => z_widen (by omega) (by omega) hR (by omega) (by omega) (kk K a b))
  · clear kk hce hsl
    generalize zsc xs (i + 1) = slot at *
    obtain ⟨s, rfl, hs⟩ := r_slot h q.1.1 q.1.2
    refine ⟨_, q.2.1, by rw [e_dist h hs N (Nat.le_refl _)]; exact zmd_rg h hs, ?_⟩
    obtain ⟨c, -, rfl⟩ := q
    have hw : zRn ((zdc I' (I' 16 s) N : Nat)) := by rw [e_dist h hs N (Nat.le_refl _)]; exact zmd_rg h hs
    have hJ := i_129 h ((zdc I' (I' 16 s) N : Nat))
    have hr2 := zRg_up (k := 129) (i := 0) (v := (zdc I' (I' 16 s) N : Nat)) hr hw
    have c2 : 0 ≤ (s : Int) ∧ (s : Int) < zup I' 129 0 ((zdc I' (I' 16 s) N : Nat)) 118 0 := by rw [← e_15 hJ]; exact c
    exact zRead hr2 hJ (by decide) (c_X4_distinct hL.m hr2 hslot (p_n hJ).2 (p_N hJ).2 (fun _ _ l9 a b x => (p_HT hJ hs l9 a b x).2)) (by rw [if_pos c2, show (zup I' 129 0 ((zdc I' (I' 16 s) N : Nat) : Int) 110 3).toNat = N by have := hJ.1.1; omega, zmd_g (fun _ h => z129c h)]; exact (e_dist h hs N (Nat.le_refl _)).symm) hw (fun q => nomatch q) (if_pos c2) (fun _ => zup_at _ _ _ _)
  · clear kk hce hsl
    generalize zsc xs (i + 1) = slot at *
    refine ⟨q.2.1, ?_⟩
    obtain ⟨rfl, -, c⟩ := q
    have c2 : ¬ (0 ≤ slot ∧ slot < I' 118 0) := by rw [← e_15 h]; exact c
    exact zRead hr h (by decide) (c_X4_distinct hL.m hr hslot (p_n h).2 (p_N h).2 (fun a b => absurd ⟨a, b⟩ c2)) (if_neg c2) (by decide) (fun q => nomatch q) (if_neg c2) (fun q => nomatch q)
set_option maxHeartbeats 4000000 in
theorem st_isRising : zStp 1460 := by
  intro G F I cells slots b L xs i rmG hG hS0 hR hfr hlo hce hsl hL hL2 hi N n hWf hr h kk
  have hslot := zsc_rg xs (i + 1)
  refine w_L_isRising (Inv := zInv) hG hS0 hR hfr hlo hce hsl hL hL2 hi (c_L_isRising hL (c_X3_isRising hL.m.c hr hslot h.1.1.1 h.1.1.2.2 (p_n h).1 (p_Ln h) (fun s a b => p_ord h a b) (fun s a b => p_Nb h a b)) (fun r I' q => ?_) (fun E I' q => ?_)) (fun K a b => z_widen (by omega) (by omega) hR (by omega) (by omega) (kk K a b))
  · clear kk hce hsl
    generalize zsc xs (i + 1) = slot at *
    obtain ⟨s, rfl, hs⟩ := r_slot h q.1.1 q.1.2
    refine ⟨_, q.2.1, by have := zb_bd (zrise I (I 16 s) N); omega, ?_⟩
    obtain ⟨c, -, rfl⟩ := q
    have hw : zRn (zb (zrise I' (I' 16 s) N)) := by have := zb_bd (zrise I' (I' 16 s) N); omega
    have hJ := i_129 h (zb (zrise I' (I' 16 s) N))
    have hr2 := zRg_up (k := 129) (i := 0) (v := zb (zrise I' (I' 16 s) N)) hr hw
    have c2 : 0 ≤ (s : Int) ∧ (s : Int) < zup I' 129 0 (zb (zrise I' (I' 16 s) N)) 118 0 := by rw [← e_15 hJ]; exact c
    exact zRead hr2 hJ (by decide) (c_X4_isRising hL.m hr2 hslot (p_n hJ).2 hJ.1.1.2.1 hJ.1.1.2.2 (fun _ _ l9 a b _ x => p_HT hJ hs l9 a b x) (fun _ _ l9 a => e_nrg hJ a hs)) (by rw [e_rise h hs, zmr_g (fun _ h => z129c h), z129c (c := 122) (by decide), z129 (c := 120) (by decide)]; exact (by by_cases e : I' 120 s = 1 ∧ 2 ≤ zmu (I' 122) 0 s N; (rw [if_pos e, if_pos ⟨c2, e⟩]); (rw [if_neg e, if_neg (fun r => e r.2)]))) hw (fun _ => zb_bd _) (if_pos c2) (fun _ => zup_at _ _ _ _)
  · clear kk hce hsl
    generalize zsc xs (i + 1) = slot at *
    refine ⟨q.2.1, ?_⟩
    obtain ⟨rfl, -, c⟩ := q
    have c2 : ¬ (0 ≤ slot ∧ slot < I' 118 0) := by rw [← e_15 h]; exact c
    exact zRead hr h (by decide) (c_X4_isRising hL.m hr hslot (p_n h).2 h.1.1.2.1 h.1.1.2.2 (fun a b => absurd ⟨a, b⟩ c2) (fun a b => absurd ⟨a, b⟩ c2)) (if_neg (fun r => c2 r.1)) (by decide) (fun _ => Or.inl rfl) (if_neg c2) (fun q => nomatch q)
set_option maxHeartbeats 4000000 in
theorem st_sizeOf : zStp 1065 := by
  intro G F I cells slots b L xs i rmG hG hS0 hR hfr hlo hce hsl hL hL2 hi N n hWf hr h kk
  have hslot := zsc_rg xs (i + 1)
  have hg : (if zsc xs (i + 2) = 0 then (0 : Int) else 1) = 0 ∨ (if zsc xs (i + 2) = 0 then (0 : Int) else 1) = 1 := by split <;> simp
  refine w_L_sizeOf (Inv := zInv) hG hS0 hR hfr hlo hce hsl hL hL2 hi (c_L_sizeOf hL (c_X3_sizeOf hL.m.c hr hslot (p_n h).1 (fun _ a b => p_ord h a b) hg) (fun r I' q => ?_) (fun E I' q => ?_)) (fun K a b => z_widen (by omega) (by omega) hR (by omega) (by omega) (kk K a b))
  · clear kk hce hsl
    generalize (if zsc xs (i + 2) = 0 then (0 : Int) else 1) = g at *
    generalize zsc xs (i + 1) = slot at *
    have hI := hr
    refine ⟨_, q.2.1, by split <;> exact hr _ _, ?_⟩
    obtain ⟨c, -, rfl⟩ := q
    obtain ⟨s, rfl, hs⟩ := r_slot h c.1 c.2
    have hw : zRn (if g = 0 then I' 19 (I' 16 s) else I' 20 (I' 16 s)) := by split <;> exact hr _ _
    have m4 := h.2.2.2.2.1.2.2.2 s hs
    have ew : (if g = 0 then I' 19 (I' 16 s) else I' 20 (I' 16 s)) = zme (I' 122) (I' 117) s g N := by
      rcases hg with e | e
      · rw [if_pos e, e]; exact m4.2.1
      · rw [if_neg (by omega), e]; exact m4.2.2
    generalize (if g = 0 then I' 19 (I' 16 s) else I' 20 (I' 16 s)) = w at *
    have hJ := i_129 h w
    have hr2 := zRg_up (k := 129) (i := 0) (v := w) hr hw
    have c2 : 0 ≤ (s : Int) ∧ (s : Int) < zup I' 129 0 w 118 0 := by rw [← e_15 hJ]; exact c
    exact zRead hr2 hJ (by decide) (c_X4_sizeOf hL.m hr2 hslot (by omega) (p_n hJ).2 (p_N hJ).2 (fun _ _ _ l9 a b x => p_HU hJ hs l9 a b x)) (by rw [if_pos c2, z129c (by decide), z129c (by decide), show (zup I' 129 0 w 110 3).toNat = N by rw [z129 (by decide)]; have := h.1.1; omega]; exact ew.symm) hw (fun q => nomatch q) (if_pos c2) (fun _ => zup_at _ _ _ _)
  · clear kk hce hsl
    generalize (if zsc xs (i + 2) = 0 then (0 : Int) else 1) = g at *
    generalize zsc xs (i + 1) = slot at *
    refine ⟨q.2.1, ?_⟩
    obtain ⟨rfl, -, c⟩ := q
    have c2 : ¬ (0 ≤ slot ∧ slot < I' 118 0) := by rw [← e_15 h]; exact c
    exact zRead hr h (by decide) (c_X4_sizeOf hL.m hr hslot (by omega) (p_n h).2 (p_N h).2 (fun _ a b => absurd ⟨a, b⟩ c2)) (if_neg c2) (by decide) (fun q => nomatch q) (if_neg c2) (fun q => nomatch q)
