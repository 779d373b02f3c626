/-! the law's frame over the store, as one over an invariant -/
def nZ (Z : zCx) : nCx := match Z with
  | (p, l, e, R, s, m, args, below, meth, c, Q, A, n, D, cs) => (p, l, e, R, s, m, args, below, meth, c, Q, n)
def zInv (Z : zCx) (F : zFr) (I : zStore) : Heap → List Loc → Prop := match Z with
  | (p, l, e, R, s, m, args, below, meth, c, Q, A, n, D, cs) => fun H locs => va_P D vwCl (zws cs F I) H ∧ va_D A (zws cs F I) ∧ va_S A s.heap H locs
section ZN
variable {Z : zCx} {F : zFr} {I : zStore} {cells slots : Nat} {lv : zLv} {st stk : List Value} {pc : Nat} {own : String} {cc : ByteArray} {nL : Nat}
theorem zW_n (h : nW (nZ Z) (zInv Z F I) cells slots lv st pc) : zW Z F cells slots I lv st pc := by
  obtain ⟨p, l, e, R, s, m, args, below, meth, c, Q, A, n, D, cs⟩ := Z
  intro hc hs H locs ls hP hD hS hl
  exact h hc hs H locs ls ⟨hP, hD, hS⟩ hl
theorem nW_z (h : zW Z F cells slots I lv st pc) : nW (nZ Z) (zInv Z F I) cells slots lv st pc := by
  obtain ⟨p, l, e, R, s, m, args, below, meth, c, Q, A, n, D, cs⟩ := Z
  intro hc hs H locs ls hJ hl
  exact h hc hs H locs ls hJ.1 hJ.2.1 hJ.2.2 hl
theorem zN_ok (h : zOK Z own cc nL) : nOK (nZ Z) own cc nL := by
  obtain ⟨p, l, e, R, s, m, args, below, meth, c, Q, A, n, D, cs⟩ := Z
  obtain ⟨g1, g2, g3, g4, g5, g6, g7, g8, g9, g10, g11⟩ := h
  exact ⟨g1, g2, g3, g4, g5, g7⟩
theorem zN_rm {rm : Room} (h : zRoom Z rm) : nRoom (nZ Z) rm := by
  obtain ⟨p, l, e, R, s, m, args, below, meth, c, Q, A, n, D, cs⟩ := Z
  exact h
theorem zInv_ext (h : zOK Z own cc nL) : nExt (zInv Z F I) := by
  obtain ⟨p, l, e, R, s, m, args, below, meth, c, Q, A, n, D, cs⟩ := Z
  obtain ⟨g1, g2, g3, g4, g5, g6, g7, g8, g9, g10, g11⟩ := h
  intro H H1 locs L hJ h1 h2 h3
  obtain ⟨hP, hD, hS⟩ := hJ
  refine ⟨hP.kept fun k q hk => h2 _ (hP k q hk).lt, hD, Nat.le_trans hS.1 h1, fun q hq hn => (h2 q (Nat.lt_of_lt_of_le hq hS.1)).trans (hS.2.1 q hq hn), fun q hq => ?_⟩
  rcases List.mem_append.mp hq with h | h
  · exact hS.2.2 q h
  · exact g10 _ (Nat.le_trans hS.1 (h3 q h))
/-- a String that lies outside at the method's entry -/
def zStr (Z : zCx) (o : oSt) : Prop := match Z with
  | (p, l, e, R, s, m, args, below, meth, c, Q, A, n, D, cs) => oStr A s s.heap o.1 o.2.1 o.2.2
theorem zStr_n {o : oSt} (h : zOK Z own cc nL) (ho : zStr Z o) : nStr (nZ Z) (zInv Z F I) o := by
  obtain ⟨p, l, e, R, s, m, args, below, meth, c, Q, A, n, D, cs⟩ := Z
  obtain ⟨g1, g2, g3, g4, g5, g6, g7, g8, g9, g10, g11⟩ := h
  intro H locs hJ
  obtain ⟨hP, hD, hS⟩ := hJ
  have hn : ∀ q, H.size ≤ q → A q := fun q hq => g10 q (Nat.le_trans hS.1 hq)
  have hX : va_Z "java/lang/String" "COMPACT_STRINGS" "Z" (.int 1) A s H ∧ va_Zq "jdk/internal/util/Preconditions" "SIOOBE_FORMATTER" "Ljava/util/function/BiFunction;" A s H := ⟨g8.2.2.1.kept hS.2.1, g8.2.2.2.1.kept hS.2.1⟩
  refine ⟨hX.1.narrow hn, hX.2.narrow hn, fun o' hm => ?_⟩
  cases List.mem_singleton.mp hm
  exact (oStr.kept ho hS.2.1).narrow hn
/-- a method of the class that may throw, on roads where it doesn't -/
theorem nz_X {index maxL n : Nat} {y : MethodName} {cy : ByteArray} {ret : Option FieldType} {rm rmG : Room} {post : Option Value → zStore → Prop} {px : String → zStore → Prop} (As : List Value) (hG : zOK Z own cc nL) (hRm : zRoom Z rmG) (hL : zLay F)
    (hM : ∀ (l : Launch) (D : va_G) (cs : Nat → ClassId), l.stackTraces = false → zMx l y cy maxL ret rm D cs F I (.ref (F.1 0) :: As) post px) (hpx : ∀ (E : String) (I' : zStore), px E I' → False) (hy : zHead y cy maxL n ret) (hl : zWd (.methodLink own index y)) (hi : zWd (.instanceMethod y)) (hse : zWd (.selects RX3 y y))
    (hf : rm.frames + 1 ≤ rmG.frames) (hlo : 8 + (maxL + 11) + rm.locals ≤ rmG.locals) (hce : cells + rm.cells ≤ rmG.cells) (hsl : slots + rm.slots ≤ rmG.slots) (hn : As.length = n) (hstk : stk = As.reverse ++ .ref (F.1 0) :: st) (hcat : (st.map fun v => v.category).sum ≤ 8) (hd : decode cc pc = .ok (.invokevirtual index, 3))
    (kk : ∀ (r : Option Value) (I' : zStore), post r I' → nW (nZ Z) (zInv Z F I') (cells + rm.cells) (slots + rm.slots) lv (r.toList ++ st) (pc + 3)) : nW (nZ Z) (zInv Z F I) cells slots lv stk pc :=
  nW_z (z_callVX (ci := 3) (T := TX3) (N := 11) As hG hRm hM hy hl hi hse rfl (zlt hL (by decide)) (zl0 hL) hf hlo hce hsl hn hstk hcat hd (fun E I' h => (hpx E I' h).elim) (fun r I' h => zW_n (kk r I' h)))
theorem nz_M {index maxL n : Nat} {y : MethodName} {cy : ByteArray} {ret : Option FieldType} {rm rmG : Room} {post : Option Value → zStore → Prop} (As : List Value) (hG : zOK Z own cc nL) (hRm : zRoom Z rmG) (hL : zLay F)
    (hM : ∀ (l : Launch) (D : va_G) (cs : Nat → ClassId), l.stackTraces = false → zMt l y cy maxL ret rm D cs F I (.ref (F.1 0) :: As) post) (hy : zHead y cy maxL n ret) (hl : zWd (.methodLink own index y)) (hi : zWd (.instanceMethod y)) (hse : zWd (.selects RX3 y y))
    (hf : rm.frames + 1 ≤ rmG.frames) (hlo : 8 + (maxL + 11) + rm.locals ≤ rmG.locals) (hce : cells + rm.cells ≤ rmG.cells) (hsl : slots + rm.slots ≤ rmG.slots) (hn : As.length = n) (hstk : stk = As.reverse ++ .ref (F.1 0) :: st) (hcat : (st.map fun v => v.category).sum ≤ 8) (hd : decode cc pc = .ok (.invokevirtual index, 3))
    (kk : ∀ (r : Option Value) (I' : zStore), post r I' → nW (nZ Z) (zInv Z F I') (cells + rm.cells) (slots + rm.slots) lv (r.toList ++ st) (pc + 3)) : nW (nZ Z) (zInv Z F I) cells slots lv stk pc :=
  nW_z (z_callV (ci := 3) (T := TX3) (N := 11) As hG hRm hM hy hl hi hse rfl (zlt hL (by decide)) (zl0 hL) hf hlo hce hsl hn hstk hcat hd (fun r I' h => zW_n (kk r I' h)))
theorem zI_nat (n : Nat) : zI (n : Int) = nI n := rfl
end ZN
section WX
variable {Z : zCx} {F : zFr} {I B : zStore} {N n cells slots : Nat} {lv : zLv} {st : List Value} {pc : Nat} {cc : ByteArray} {nL : Nat} {rmG : Room}
theorem w_lineCount  (hG : zOK Z "LineLearnerLaw" cc nL) (hRm : zRoom Z rmG) (hL : zLay F) (hr : zRg I) (hR : rR I B N n) (hf : rm_X3_lineCount.frames + 1 ≤ rmG.frames) (hlo : 8 + (1 + 11) + rm_X3_lineCount.locals ≤ rmG.locals) (hce : cells + rm_X3_lineCount.cells ≤ rmG.cells) (hsl : slots + rm_X3_lineCount.slots ≤ rmG.slots) (hcat : (st.map fun v => v.category).sum ≤ 8) (hd : decode cc pc = .ok (.invokevirtual 82, 3))
    (kk : nW (nZ Z) (zInv Z F I) (cells + rm_X3_lineCount.cells) (slots + rm_X3_lineCount.slots) lv (.int (nI N) :: st) (pc + 3)) : nW (nZ Z) (zInv Z F I) cells slots lv (.ref (F.1 0) :: st) pc := by
  have hN : I 2 0 = N := hR.1.1.1
  have hN2 := hR.1.1.2.2
  refine nz_M [] hG hRm hL (c_X3_lineCount hL hr) hd_X3_lineCount kv187 kw194 kw195 hf hlo hce hsl rfl rfl hcat hd (fun r I' hp => ?_)
  obtain ⟨rfl, rfl⟩ := hp
  rw [hN, zI_nat]
  exact kk
theorem w_slotCount  (hG : zOK Z "LineLearnerLaw" cc nL) (hRm : zRoom Z rmG) (hL : zLay F) (hr : zRg I) (hR : rR I B N n) (hf : rm_X3_slotCount.frames + 1 ≤ rmG.frames) (hlo : 8 + (1 + 11) + rm_X3_slotCount.locals ≤ rmG.locals) (hce : cells + rm_X3_slotCount.cells ≤ rmG.cells) (hsl : slots + rm_X3_slotCount.slots ≤ rmG.slots) (hcat : (st.map fun v => v.category).sum ≤ 8) (hd : decode cc pc = .ok (.invokevirtual 108, 3))
    (kk : nW (nZ Z) (zInv Z F I) (cells + rm_X3_slotCount.cells) (slots + rm_X3_slotCount.slots) lv (.int (nI n) :: st) (pc + 3)) : nW (nZ Z) (zInv Z F I) cells slots lv (.ref (F.1 0) :: st) pc := by
  have hn : I 15 0 = n := hR.2.2.2.1.1.1
  refine nz_M [] hG hRm hL (c_X3_slotCount hL hr) hd_X3_slotCount kv384 kw236 kw237 hf hlo hce hsl rfl rfl hcat hd (fun r I' hp => ?_)
  obtain ⟨rfl, rfl⟩ := hp
  rw [hn, zI_nat]
  exact kk
theorem w_tokenCount {k : Nat} (hG : zOK Z "LineLearnerLaw" cc nL) (hRm : zRoom Z rmG) (hL : zLay F) (hr : zRg I) (hR : rR I B N n) (hk : k < N) (hf : rm_X3_tokenCount.frames + 1 ≤ rmG.frames) (hlo : 8 + (2 + 11) + rm_X3_tokenCount.locals ≤ rmG.locals) (hce : cells + rm_X3_tokenCount.cells ≤ rmG.cells) (hsl : slots + rm_X3_tokenCount.slots ≤ rmG.slots) (hcat : (st.map fun v => v.category).sum ≤ 8) (hd : decode cc pc = .ok (.invokevirtual 142, 3))
    (kk : nW (nZ Z) (zInv Z F I) (cells + rm_X3_tokenCount.cells) (slots + rm_X3_tokenCount.slots) lv (.int (zI (B 114 k)) :: st) (pc + 3)) : nW (nZ Z) (zInv Z F I) cells slots lv (.int (nI k) :: .ref (F.1 0) :: st) pc := by
  have hN : I 2 0 = N := hR.1.1.1
  have hN2 := hR.1.1.2.2
  have ht := p_tok hR (line := k) (by omega) (by omega)
  refine nz_X [.int (nI k)] hG hRm hL (c_X3_tokenCount (line := k) hL hr (by omega) (by omega)) (fun E I' h => by
    obtain ⟨-, -, h⟩ := h
    exact h ⟨by omega, by omega⟩) hd_X3_tokenCount kv191 kw419 kw420 hf hlo hce hsl rfl rfl hcat hd (fun r I' hp => ?_)
  obtain ⟨-, rfl, rfl⟩ := hp
  rw [← ht.2.2]
  exact kk
theorem w_isMerged {k : Nat} (hG : zOK Z "LineLearnerLaw" cc nL) (hRm : zRoom Z rmG) (hL : zLay F) (hr : zRg I) (hR : rR I B N n) (hk : k < N) (hf : rm_X3_isMerged.frames + 1 ≤ rmG.frames) (hlo : 8 + (2 + 11) + rm_X3_isMerged.locals ≤ rmG.locals) (hce : cells + rm_X3_isMerged.cells ≤ rmG.cells) (hsl : slots + rm_X3_isMerged.slots ≤ rmG.slots) (hcat : (st.map fun v => v.category).sum ≤ 8) (hd : decode cc pc = .ok (.invokevirtual 123, 3))
    (kk : nW (nZ Z) (zInv Z F I) (cells + rm_X3_isMerged.cells) (slots + rm_X3_isMerged.slots) lv (.int (zI (zbit (B 119 0) k)) :: st) (pc + 3)) : nW (nZ Z) (zInv Z F I) cells slots lv (.int (nI k) :: .ref (F.1 0) :: st) pc := by
  have hN : I 2 0 = N := hR.1.1.1
  have hN2 := hR.1.1.2.2
  have hm := hR.2.2.2.2.1.1 k (by omega)
  refine nz_X [.int (nI k)] hG hRm hL (c_X3_isMerged (line := k) hL hr (by omega) (by omega) (fun _ _ _ => by rw [hm]; have := zbit_01 (B 119 0) k; omega)) (fun E I' h => by
    obtain ⟨-, -, h⟩ := h
    exact h ⟨by omega, by omega⟩) hd_X3_isMerged kv359 kw524 kw525 hf hlo hce hsl rfl rfl hcat hd (fun r I' hp => ?_)
  obtain ⟨-, rfl, rfl⟩ := hp
  rw [hm]
  exact kk
theorem w_tokenKind {k t : Nat} (hG : zOK Z "LineLearnerLaw" cc nL) (hRm : zRoom Z rmG) (hL : zLay F) (hr : zRg I) (hR : rR I B N n) (hk : k < N) (ht : (t : Int) < B 114 k) (hf : rm_X3_tokenKind.frames + 1 ≤ rmG.frames) (hlo : 8 + (3 + 11) + rm_X3_tokenKind.locals ≤ rmG.locals) (hce : cells + rm_X3_tokenKind.cells ≤ rmG.cells) (hsl : slots + rm_X3_tokenKind.slots ≤ rmG.slots) (hcat : (st.map fun v => v.category).sum ≤ 8) (hd : decode cc pc = .ok (.invokevirtual 136, 3))
    (kk : nW (nZ Z) (zInv Z F I) (cells + rm_X3_tokenKind.cells) (slots + rm_X3_tokenKind.slots) lv (.int (zI (B 115 (30 * k + t))) :: st) (pc + 3)) : nW (nZ Z) (zInv Z F I) cells slots lv (.int (nI t) :: .int (nI k) :: .ref (F.1 0) :: st) pc := by
  have hN : I 2 0 = N := hR.1.1.1
  have hN2 := hR.1.1.2.2
  have hc := p_tok hR (line := k) (by omega) (by omega)
  have he := (e_kind hR (line := k) (token := t) (by omega) (by omega) (by omega) (by omega)).1
  refine nz_X [.int (nI k), .int (nI t)] hG hRm hL (c_X3_tokenKind (line := k) (token := t) hL hr (by omega) (by omega) (by omega) (fun _ _ _ => by omega)) (fun E I' h => by
    obtain ⟨-, -, h⟩ := h
    exact h ⟨⟨by omega, by omega⟩, by omega, by omega⟩) hd_X3_tokenKind kv266 kw446 kw447 hf hlo hce hsl rfl rfl hcat hd (fun r I' hp => ?_)
  obtain ⟨-, rfl, rfl⟩ := hp
  rw [he]
  exact kk
theorem w_slotKind {s : Nat} (hG : zOK Z "LineLearnerLaw" cc nL) (hRm : zRoom Z rmG) (hL : zLay F) (hr : zRg I) (hR : rR I B N n) (hs : s < n) (hf : rm_X3_slotKind.frames + 1 ≤ rmG.frames) (hlo : 8 + (2 + 11) + rm_X3_slotKind.locals ≤ rmG.locals) (hce : cells + rm_X3_slotKind.cells ≤ rmG.cells) (hsl : slots + rm_X3_slotKind.slots ≤ rmG.slots) (hcat : (st.map fun v => v.category).sum ≤ 8) (hd : decode cc pc = .ok (.invokevirtual 139, 3))
    (kk : nW (nZ Z) (zInv Z F I) (cells + rm_X3_slotKind.cells) (slots + rm_X3_slotKind.slots) lv (.int (zI (B 120 (40 * 0 + s))) :: st) (pc + 3)) : nW (nZ Z) (zInv Z F I) cells slots lv (.int (nI s) :: .ref (F.1 0) :: st) pc := by
  have hn : I 15 0 = n := hR.2.2.2.1.1.1
  have hn2 : n ≤ 40 := hR.2.2.2.1.1.2.2
  have hs0 := r_sl hR hs
  refine nz_X [.int (nI s)] hG hRm hL (c_X3_slotKind (slot := s) hL hr (by omega) (by omega) (fun _ h1 h2 => p_ord hR h1 h2)) (fun E I' h => by
    obtain ⟨-, -, h⟩ := h
    exact h ⟨by omega, by omega⟩) hd_X3_slotKind kv388 kw553 kw554 hf hlo hce hsl rfl rfl hcat hd (fun r I' hp => ?_)
  obtain ⟨-, rfl, rfl⟩ := hp
  rw [hs0.2.1.2.2] at kk
  exact kk
theorem w_isOptional {s : Nat} (hG : zOK Z "LineLearnerLaw" cc nL) (hRm : zRoom Z rmG) (hL : zLay F) (hr : zRg I) (hR : rR I B N n) (hs : s < n) (hf : rm_X3_isOptional.frames + 1 ≤ rmG.frames) (hlo : 8 + (2 + 11) + rm_X3_isOptional.locals ≤ rmG.locals) (hce : cells + rm_X3_isOptional.cells ≤ rmG.cells) (hsl : slots + rm_X3_isOptional.slots ≤ rmG.slots) (hcat : (st.map fun v => v.category).sum ≤ 8) (hd : decode cc pc = .ok (.invokevirtual 133, 3))
    (kk : nW (nZ Z) (zInv Z F I) (cells + rm_X3_isOptional.cells) (slots + rm_X3_isOptional.slots) lv (.int (zI (if zmu (B 122) 0 s N < zbc (B 119 0) then 1 else 0)) :: st) (pc + 3)) : nW (nZ Z) (zInv Z F I) cells slots lv (.int (nI s) :: .ref (F.1 0) :: st) pc := by
  have hn : I 15 0 = n := hR.2.2.2.1.1.1
  have hn2 : n ≤ 40 := hR.2.2.2.1.1.2.2
  have hs0 := r_sl hR hs
  have hj : I 15 1 = zbc (B 119 0) := hR.2.2.2.1.2.1.2.2.1
  refine nz_X [.int (nI s)] hG hRm hL (c_X3_isOptional (slot := s) hL hr (by omega) (by omega) (fun _ h1 h2 => p_ord hR h1 h2)) (fun E I' h => by
    obtain ⟨-, -, h⟩ := h
    exact h ⟨by omega, by omega⟩) hd_X3_isOptional kv397 kw587 kw588 hf hlo hce hsl rfl rfl hcat hd (fun r I' hp => ?_)
  obtain ⟨-, rfl, rfl⟩ := hp
  rw [← hs0.2.2.2.1, ← hj] at kk
  exact kk
theorem w_tokenAt {k s : Nat} (hG : zOK Z "LineLearnerLaw" cc nL) (hRm : zRoom Z rmG) (hL : zLay F) (hr : zRg I) (hR : rR I B N n) (hk : k < N) (hs : s < n) (hf : rm_X3_tokenAt.frames + 1 ≤ rmG.frames) (hlo : 8 + (3 + 11) + rm_X3_tokenAt.locals ≤ rmG.locals) (hce : cells + rm_X3_tokenAt.cells ≤ rmG.cells) (hsl : slots + rm_X3_tokenAt.slots ≤ rmG.slots) (hcat : (st.map fun v => v.category).sum ≤ 8) (hd : decode cc pc = .ok (.invokevirtual 130, 3))
    (kk : nW (nZ Z) (zInv Z F I) (cells + rm_X3_tokenAt.cells) (slots + rm_X3_tokenAt.slots) lv (.int (zI (B 122 (12 * (40 * 0 + (s : Int)) + k))) :: st) (pc + 3)) : nW (nZ Z) (zInv Z F I) cells slots lv (.int (nI s) :: .int (nI k) :: .ref (F.1 0) :: st) pc := by
  have hN : I 2 0 = N := hR.1.1.1
  have hN2 := hR.1.1.2.2
  have hn : I 15 0 = n := hR.2.2.2.1.1.1
  have hn2 : n ≤ 40 := hR.2.2.2.1.1.2.2
  have hs0 := r_sl hR hs
  have hm := hR.2.2.2.2.1.1 k (by omega)
  have ht := p_tok hR (line := k) (by omega) (by omega)
  refine nz_X [.int (nI k), .int (nI s)] hG hRm hL (c_X3_tokenAt (line := k) (slot := s) hL hr (by omega) (by omega) (by omega) (by omega) (fun _ _ _ => ⟨by rw [hm]; have := zbit_01 (B 119 0) k; omega, ht.1, ht.2.1⟩)) (fun E I' h => by
    obtain ⟨-, -, h⟩ := h
    exact h ⟨⟨by omega, by omega⟩, by omega, by omega⟩) hd_X3_tokenAt kv402 kw594 kw595 hf hlo hce hsl rfl rfl hcat hd (fun r I' hp => ?_)
  obtain ⟨-, rfl, rfl⟩ := hp
  rw [e_tok hR hk hs]
  exact kk
theorem w_fits {k m : Nat} (hG : zOK Z "LineLearnerLaw" cc nL) (hRm : zRoom Z rmG) (hL : zLay F) (hr : zRg I) (hR : rR I B N n) (hk : k < N) (hm : I 4 k = m) (hf : rm_X3_fits.frames + 1 ≤ rmG.frames) (hlo : 8 + (2 + 11) + rm_X3_fits.locals ≤ rmG.locals) (hce : cells + rm_X3_fits.cells ≤ rmG.cells) (hsl : slots + rm_X3_fits.slots ≤ rmG.slots) (hcat : (st.map fun v => v.category).sum ≤ 8) (hd : decode cc pc = .ok (.invokevirtual 127, 3))
    (kk : nW (nZ Z) (zInv Z F (zM I 15 k m n)) (cells + rm_X3_fits.cells) (slots + rm_X3_fits.slots) lv (.int (zI (zb (zRR I 15 k n m))) :: st) (pc + 3)) : nW (nZ Z) (zInv Z F I) cells slots lv (.int (nI k) :: .ref (F.1 0) :: st) pc := by
  have hN : I 2 0 = N := hR.1.1.1
  have hN2 := hR.1.1.2.2
  have hA : zAl I 15 k n m := r_Al hR.1 hR.2.2.1 hR.2.2.2.1 hk hm
  refine nz_X [.int (nI k)] hG hRm hL (c_X3_fits (line := k) (n := n) (m := m) hL hr (by omega) (by omega) (fun _ _ => hA)) (fun E I' h => by
    obtain ⟨-, -, h⟩ := h
    exact h ⟨by omega, by omega⟩) hd_X3_fits kv368 kw538 kw539 hf hlo hce hsl rfl rfl hcat hd (fun r I' hp => ?_)
  obtain ⟨-, rfl, rfl⟩ := hp
  exact kk
theorem w_costWith {k m : Nat} (hG : zOK Z "LineLearnerLaw" cc nL) (hRm : zRoom Z rmG) (hL : zLay F) (hr : zRg I) (hR : rR I B N n) (hk : k < N) (hm : I 4 k = m) (hf : rm_X3_costWith.frames + 1 ≤ rmG.frames) (hlo : 8 + (2 + 11) + rm_X3_costWith.locals ≤ rmG.locals) (hce : cells + rm_X3_costWith.cells ≤ rmG.cells) (hsl : slots + rm_X3_costWith.slots ≤ rmG.slots) (hcat : (st.map fun v => v.category).sum ≤ 8) (hd : decode cc pc = .ok (.invokevirtual 111, 3))
    (kk : nW (nZ Z) (zInv Z F (ztab I 11 m n (zCC I 15 k))) (cells + rm_X3_costWith.cells) (slots + rm_X3_costWith.slots) lv (.int (zI (zCC I 15 k n m)) :: st) (pc + 3)) : nW (nZ Z) (zInv Z F I) cells slots lv (.int (nI k) :: .ref (F.1 0) :: st) pc := by
  have hN : I 2 0 = N := hR.1.1.1
  have hN2 := hR.1.1.2.2
  have hA : zAl I 15 k n m := r_Al hR.1 hR.2.2.1 hR.2.2.2.1 hk hm
  refine nz_X [.int (nI k)] hG hRm hL (c_X3_costWith (line := k) (n := n) (m := m) hL hr (by omega) (by omega) (fun _ _ => hA)) (fun E I' h => by
    obtain ⟨-, -, h⟩ := h
    exact h ⟨by omega, by omega⟩) hd_X3_costWith kv363 kw531 kw532 hf hlo hce hsl rfl rfl hcat hd (fun r I' hp => ?_)
  obtain ⟨-, rfl, rfl⟩ := hp
  exact kk
theorem w_merge {k m : Nat} (hG : zOK Z "LineLearnerLaw" cc nL) (hRm : zRoom Z rmG) (hL : zLay F) (hr : zRg I) (hR : rR I B N n) (hk : k < N) (hm : I 4 k = m) (h0 : I 22 k = 0) (hK : zK I 15 k n m ≤ 40) (hf : rm_X3_merge.frames + 1 ≤ rmG.frames) (hlo : 8 + (5 + 11) + rm_X3_merge.locals ≤ rmG.locals) (hce : cells + rm_X3_merge.cells ≤ rmG.cells) (hsl : slots + rm_X3_merge.slots ≤ rmG.slots) (hcat : (st.map fun v => v.category).sum ≤ 8) (hd : decode cc pc = .ok (.invokevirtual 115, 3))
    (kk : nW (nZ Z) (zInv Z F (zmg I k n m)) (cells + rm_X3_merge.cells) (slots + rm_X3_merge.slots) lv (.int (zI (zCC I 15 k n m)) :: st) (pc + 3)) : nW (nZ Z) (zInv Z F I) cells slots lv (.int (nI k) :: .ref (F.1 0) :: st) pc := by
  have hN : I 2 0 = N := hR.1.1.1
  have hN2 := hR.1.1.2.2
  have hA : zAl I 15 k n m := r_Al hR.1 hR.2.2.1 hR.2.2.2.1 hk hm
  have hn : I 15 0 = n := hR.2.2.2.1.1.1
  have hn2 : n ≤ 40 := hR.2.2.2.1.1.2.2
  refine nz_X [.int (nI k)] hG hRm hL (c_X3_merge (line := k) (n := n) (m := m) hL hr (by omega) (by omega) (fun l h1 h2 => by
    obtain ⟨l, rfl⟩ : ∃ l2 : Nat, l = l2 := ⟨l.toNat, by omega⟩
    rw [hR.2.2.2.2.1.1 l (by omega)]
    have := zbit_01 (B 119 0) l
    omega) hn hn2 (fun _ _ => hA) (p_Fo hR)) (fun E I' h => by
    rcases h with ⟨-, h, -⟩ | ⟨-, -, h, -⟩ | ⟨-, -, -, h, -⟩
    · exact h ⟨by omega, by omega⟩
    · exact h h0
    · exact h hK) hd_X3_merge kv278 kw488 kw489 hf hlo hce hsl rfl rfl hcat hd (fun r I' hp => ?_)
  obtain ⟨-, rfl, rfl⟩ := hp
  exact kk
theorem w_clear  (hG : zOK Z "LineLearnerLaw" cc nL) (hRm : zRoom Z rmG) (hL : zLay F) (hr : zRg I) (hR : rR I B N n) (hf : rm_X3_clear.frames + 1 ≤ rmG.frames) (hlo : 8 + (3 + 11) + rm_X3_clear.locals ≤ rmG.locals) (hce : cells + rm_X3_clear.cells ≤ rmG.cells) (hsl : slots + rm_X3_clear.slots ≤ rmG.slots) (hcat : (st.map fun v => v.category).sum ≤ 8) (hd : decode cc pc = .ok (.invokevirtual 145, 3))
    (kk : nW (nZ Z) (zInv Z F (zclr I)) (cells + rm_X3_clear.cells) (slots + rm_X3_clear.slots) lv (.int (zI (zbc (B 119 0))) :: st) (pc + 3)) : nW (nZ Z) (zInv Z F I) cells slots lv (.ref (F.1 0) :: st) pc := by
  have hj : I 15 1 = zbc (B 119 0) := hR.2.2.2.1.2.1.2.2.1
  refine nz_M [] hG hRm hL (c_X3_clear hL hr) hd_X3_clear kv351 kw198 kw199 hf hlo hce hsl rfl rfl hcat hd (fun r I' hp => ?_)
  obtain ⟨rfl, rfl⟩ := hp
  rw [hj]
  exact kk
theorem w_strangest {m : Nat → Nat} (hG : zOK Z "LineLearnerLaw" cc nL) (hRm : zRoom Z rmG) (hL : zLay F) (hr : zRg I) (hR : rR I B N n) (hm : ∀ l : Nat, l < N → I 4 l = m l) (hf : rm_X3_strangest.frames + 1 ≤ rmG.frames) (hlo : 8 + (5 + 11) + rm_X3_strangest.locals ≤ rmG.locals) (hce : cells + rm_X3_strangest.cells ≤ rmG.cells) (hsl : slots + rm_X3_strangest.slots ≤ rmG.slots) (hcat : (st.map fun v => v.category).sum ≤ 8) (hd : decode cc pc = .ok (.invokevirtual 148, 3))
    (kk : ∀ I' : zStore, zEq 11 I I' → zRg I' → nW (nZ Z) (zInv Z F I') (cells + rm_X3_strangest.cells) (slots + rm_X3_strangest.slots) lv (.int (zI (zsg (fun l => zCC I 15 l n (m l)) N).1) :: st) (pc + 3)) : nW (nZ Z) (zInv Z F I) cells slots lv (.ref (F.1 0) :: st) pc := by
  have hN : I 2 0 = N := hR.1.1.1
  have hN2 := hR.1.1.2.2
  refine nz_M [] hG hRm hL (c_X3_strangest (N := N) (n := n) (m := m) hL hr hN hN2 (fun l hl => r_Al hR.1 hR.2.2.1 hR.2.2.2.1 hl (hm l hl))) hd_X3_strangest kw205 kw206 kw207 hf hlo hce hsl rfl rfl hcat hd (fun r I' hp => ?_)
  obtain ⟨rfl, h1, h2⟩ := hp
  exact kk I' h1 h2
theorem w_setCosts {a b c : Nat} (hG : zOK Z "LineLearnerLaw" cc nL) (hRm : zRoom Z rmG) (hL : zLay F) (hr : zRg I) (hR : rR I B N n) (ha : a ≤ 20) (hb : b ≤ 20) (hc : c ≤ 20) (hf : rm_X3_setCosts.frames + 1 ≤ rmG.frames) (hlo : 8 + (4 + 11) + rm_X3_setCosts.locals ≤ rmG.locals) (hce : cells + rm_X3_setCosts.cells ≤ rmG.cells) (hsl : slots + rm_X3_setCosts.slots ≤ rmG.slots) (hcat : (st.map fun v => v.category).sum ≤ 8) (hd : decode cc pc = .ok (.invokevirtual 104, 3))
    (kk : ∀ x : Int32, nW (nZ Z) (zInv Z F (zcoA I a b c)) (cells + rm_X3_setCosts.cells) (slots + rm_X3_setCosts.slots) lv (.int x :: st) (pc + 3)) : nW (nZ Z) (zInv Z F I) cells slots lv (.int (nI c) :: .int (nI b) :: .int (nI a) :: .ref (F.1 0) :: st) pc := by
  refine nz_X [.int (nI a), .int (nI b), .int (nI c)] hG hRm hL (c_X3_setCosts (nc := a) (ns := b) (nf := c) hL hr (by omega) (by omega) (by omega)) (fun E I' h => by
    obtain ⟨-, -, h⟩ := h
    exact h ⟨by omega, by omega, by omega⟩) hd_X3_setCosts kv738 kw473 kw474 hf hlo hce hsl rfl rfl hcat hd (fun r I' hp => ?_)
  obtain ⟨-, rfl, rfl⟩ := hp
  exact kk _
theorem w_feed {x : Int64} (hG : zOK Z "LineLearnerLaw" cc nL) (hRm : zRoom Z rmG) (hL : zLay F) (hr : zRg I) (hR : rR I B N n) (h1 : zcb x 8 ≠ (-1)) (h2 : I 0 1 + zcb x 8 ≤ 30) (hf : rm_X3_feed.frames + 1 ≤ rmG.frames) (hlo : 8 + (6 + 11) + rm_X3_feed.locals ≤ rmG.locals) (hce : cells + rm_X3_feed.cells ≤ rmG.cells) (hsl : slots + rm_X3_feed.slots ≤ rmG.slots) (hcat : (st.map fun v => v.category).sum ≤ 8) (hd : decode cc pc = .ok (.invokevirtual 73, 3))
    (kk : nW (nZ Z) (zInv Z F (zfd I x 8)) (cells + rm_X3_feed.cells) (slots + rm_X3_feed.slots) lv (.int (zI (I 0 1 + zcb x 8)) :: st) (pc + 3)) : nW (nZ Z) (zInv Z F I) cells slots lv (.long x :: .ref (F.1 0) :: st) pc := by
  refine nz_X [.long x] hG hRm hL (c_X3_feed hL hr ⟨hR.2.1.1.1, hR.2.1.1.2.1⟩) (fun E I' h => by
    rcases h.2 with ⟨-, h⟩ | ⟨-, -, h⟩
    · exact h1 h
    · omega) hd_X3_feed kv679 kw289 kw290 hf hlo hce hsl rfl rfl hcat hd (fun r I' hp => ?_)
  obtain ⟨-, rfl, rfl⟩ := hp
  exact kk
theorem w_store {z : Nat} (hG : zOK Z "LineLearnerLaw" cc nL) (hRm : zRoom Z rmG) (hL : zLay F) (hr : zRg I) (hR : rR I B N n) (hN12 : N < 12) (hz : I 0 1 = z) (hf : rm_X3_store.frames + 1 ≤ rmG.frames) (hlo : 8 + (2 + 11) + rm_X3_store.locals ≤ rmG.locals) (hce : cells + rm_X3_store.cells ≤ rmG.cells) (hsl : slots + rm_X3_store.slots ≤ rmG.slots) (hcat : (st.map fun v => v.category).sum ≤ 8) (hd : decode cc pc = .ok (.invokevirtual 79, 3))
    (kk : ∀ V : Nat → Int, (∀ t : Nat, t < zcnt (zkb (zad1 I N z) N) z → zfst (zad2 I N z) N ((N : Int) * 30 + t) (V t) ∧ 0 ≤ V t ∧ V t < 360) → nW (nZ Z) (zInv Z F (zsto I N z V)) (cells + rm_X3_store.cells) (slots + rm_X3_store.slots) lv (.int (nI N) :: st) (pc + 3)) : nW (nZ Z) (zInv Z F I) cells slots lv (.ref (F.1 0) :: st) pc := by
  have hN : I 2 0 = N := hR.1.1.1
  have hN2 := hR.1.1.2.2
  obtain ⟨V, hV⟩ := r_V hR hN12 hz
  refine nz_X [] hG hRm hL (c_X3_store (L := N) (z := z) (V := V) hL hr hN hN2 hz (by have := hR.2.1.1; omega) (fun j h1 h2 => (hR.2.1.2 j h1 (by omega)).1) (p_st hR) (fun t ht => (hV t ht).1) (fun t ht => (hV t ht).2)) (fun E I' h => by
    exact h.2.2 hN12) hd_X3_store kv706 kw385 kw386 hf hlo hce hsl rfl rfl hcat hd (fun r I' hp => ?_)
  obtain ⟨-, rfl, rfl⟩ := hp
  exact kk V hV
end WX
