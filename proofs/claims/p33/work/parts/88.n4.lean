/-! the rows of 'line' -/
section QR
variable {G : nCx} {D : va_G} {cB cS : ClassId} {adK adV : Nat → Nat} {ar k0 : Nat} {ws : va_W} {os ds : List oSt} {J : Heap → List Loc → Prop} {cells slots : Nat} {lv lv' : zLv} {st stk : List Value} {pc : Nat} {own : String} {cc : ByteArray} {nL : Nat}
theorem q_ldc {i index : Nat} (hG : nOK G "LineLearnerLaw" cc nL) (hQ : qG G D cB adK adV) (hi : i < 16) (hix : (sxT.getD i (0, "", [])).1 = index) (hd : decode cc pc = .ok (.ldc index, 2)) (k : nW G J cells slots lv (.ref (adK i) :: st) (pc + 2)) : nW G J cells slots lv st pc := by
  obtain ⟨p, l, e, R, s, m, args, below, meth, c, Q, nn⟩ := G
  intro hc hs H locs ls hJ hl
  subst hix
  exact va_ldcS hG.1 hG.2.1 hG.2.2.1 (hQ.2.1.2.2 i hi).2 hd (k hc hs H locs ls hJ hl)
abbrev qLits (adK adV : Nat → Nat) : List oSt := (List.range 16).map (fun i => (adK i, adV i, sxB i))
theorem qLits_in {i : Nat} (hi : i < 16) : (adK i, adV i, sxB i) ∈ qLits adK adV := List.mem_map.mpr ⟨i, List.mem_range.mpr hi, rfl⟩
theorem qLits_os (hQ : qG G D cB adK adV) {H : Heap} {locs : List Loc} {w : va_W} (hS : va_S (fun q => (nS G).heap.size ≤ q) (nS G).heap H locs) (hD : va_D (fun q => (nS G).heap.size ≤ q) w) : ∀ o ∈ qLits adK adV, oStr (va_A w H.size) (nS G) H o.1 o.2.1 o.2.2 := by
  intro o ho
  obtain ⟨i, hi, rfl⟩ := List.mem_map.mp ho
  refine ((hQ.2.1.2.2 i (List.mem_range.mp hi)).1.kept hS.2.1).narrow ?_
  rintro q (⟨k, e, hk⟩ | hq)
  · exact hD.2 k _ hk
  · exact Nat.le_trans hS.1 hq
theorem q_arr {index : Nat} {rm : Room} (hG : nOK G own cc nL) (hRm : nRoom G rm) (hQ : qG G D cB adK adV) (hlk : zWd (.classLink own index "java/lang/String")) (hce : cells + 1 ≤ rm.cells) (hsl : slots + 15 ≤ rm.slots) (hd : decode cc pc = .ok (.anewarray index, 3))
    (kk : ∀ (ar : Nat) (cS : ClassId), va_K D jCl [(cB, .byte), (cS, .object "java/lang/String")] (nS G) → nW G (uJ G (qL G D cB cS adK ar 0 [] (qLits adK adV) [])) (cells + 1) (slots + 15) lv (.ref ar :: st) (pc + 3)) : nW G (uJ G (fun H => H = (nS G).heap)) cells slots lv (.int (nI 15) :: st) pc := by
  obtain ⟨p, l, e, R, s, m, args, below, meth, c, Q, nn⟩ := G
  intro hc hs H locs ls hJ hl
  obtain ⟨g1, g2, g3, g4, g5, g7⟩ := hG
  have r3 := hRm.2.2.1
  have r4 := hRm.2.2.2
  obtain ⟨hS, hH⟩ := hJ
  refine va_newq (C := "java/lang/String") (D := D) (cl := jCl) (ws := []) (tys := [(cB, .byte)]) (A := fun q => s.heap.size ≤ q) (H0 := s.heap) (N' := 15) g1 g2 g3 (g7.at hlk _) hQ.2.2 hQ.1 (fun k q h => by simp at h) ⟨fun i j p q h => by simp at h, fun k q h => by simp at h⟩ hS (fun q h => h) (nI_pos (by decide)) (nI_clamp (by decide)) (by decide) (by omega) (by omega) hd (fun q cA H1 hK2 hP hD hS2 => ?_)
  exact kk q cA hK2 (by omega) (by omega) H1 locs ls ⟨hS2, _, fun j hj => absurd hj (Nat.not_lt_zero _), hP, hD, qLits_os hQ hS2 hD, fun o h => by simp at h⟩ hl
theorem q_put {k : Nat} (hG : nOK G own cc nL) (hQ : qG G D cB adK adV) (hK : va_K D jCl [(cB, .byte), (cS, .object "java/lang/String")] (nS G)) (hk : k < 15) (hd : decode cc pc = .ok (.aastore, 1))
    (kk : nW G (uJ G (qL G D cB cS adK ar (k + 1) [] (qLits adK adV) [])) cells slots lv st (pc + 1)) : nW G (uJ G (qL G D cB cS adK ar k [] (qLits adK adV) [])) cells slots lv (.ref (adK k) :: .int (nI k) :: .ref ar :: st) pc := by
  obtain ⟨p, l, e, R, s, m, args, below, meth, c, Q, nn⟩ := G
  intro hc hs H locs ls hJ hl
  obtain ⟨g1, g2, g3, g4, g5, g7⟩ := hG
  obtain ⟨hS, f, hf, hP, hD, hos, hds⟩ := hJ
  obtain ⟨cell, h1, h2, h3, -⟩ := (hos _ (qLits_in (i := k) (by omega))).1
  have e1 : (nI k).toNatClampNeg = k := nI_clamp (by omega)
  refine vb_astq (D := D) (cl := jCl) (A := fun q => s.heap.size ≤ q) (H0 := s.heap) (C := "java/lang/String") g1 g2 hK hP hD hS 0 1 rfl rfl ⟨cell, h1, h2, h3⟩ vb_asgS (nI_in (by omega) (by decide)) hd (fun H1 locs1 hP1 hD1 hS1 => ?_)
  rw [e1] at hP1 hD1
  refine kk hc hs H1 locs1 ls ⟨hS1, va_up f k (some (adK k)), fun j hj => ?_, hP1, hD1, qLits_os hQ hS1 hD1, fun o h => by simp at h⟩ hl
  by_cases hjk : j = k
  · subst hjk
    simp [va_up]
  · simp only [va_up, hjk, if_false]
    exact hf j (by omega)
theorem q_get {k v : Nat} (hG : nOK G own cc nL) (hK : va_K D jCl [(cB, .byte), (cS, .object "java/lang/String")] (nS G)) (hv : v < k) (hk : k ≤ 15) (hd : decode cc pc = .ok (.aaload, 1))
    (kk : nW G (uJ G (qL G D cB cS adK ar k ws os ds)) cells slots lv (.ref (adK v) :: st) (pc + 1)) : nW G (uJ G (qL G D cB cS adK ar k ws os ds)) cells slots lv (.int (nI v) :: .ref ar :: st) pc := by
  obtain ⟨p, l, e, R, s, m, args, below, meth, c, Q, nn⟩ := G
  intro hc hs H locs ls hJ hl
  have hJ' := hJ
  obtain ⟨g1, g2, g3, g4, g5, g7⟩ := hG
  obtain ⟨hS, f, hf, hP, hD, hos, hds⟩ := hJ
  have e1 : (nI v).toNatClampNeg = v := nI_clamp (by omega)
  refine va_aldq (D := D) (cl := jCl) g1 g2 hK hP 0 1 rfl rfl (nI_in (by omega) (by decide)) hd ?_
  rw [e1, hf v hv]
  exact kk hc hs H locs ls hJ' hl
theorem q_newSB {index : Nat} {rm : Room} (hG : nOK G own cc nL) (hRm : nRoom G rm) (hK : va_K D jCl [(cB, .byte), (cS, .object "java/lang/String")] (nS G)) (hlk : zWd (.classLink own index RJ4)) (hin : zWd (.instantiable RJ4 4)) (hini : zWd (.initialized RJ4)) (hce : cells + 1 ≤ rm.cells) (hsl : slots + 4 ≤ rm.slots) (hd : decode cc pc = .ok (.new index, 3))
    (kk : ∀ b, nW G (uJ G (qL G D cB cS adK ar k0 [jO 1 b] os ds)) (cells + 1) (slots + 4) lv (.ref b :: st) (pc + 3)) : nW G (uJ G (qL G D cB cS adK ar k0 [] os ds)) cells slots lv st pc := by
  obtain ⟨p, l, e, R, s, m, args, below, meth, c, Q, nn⟩ := G
  intro hc hs H locs ls hJ hl
  obtain ⟨g1, g2, g3, g4, g5, g7⟩ := hG
  have r3 := hRm.2.2.1
  have r4 := hRm.2.2.2
  have hKn := hK.1 1 _ rfl
  refine W.newcK g1 g2 g3 (g7.at hlk _) (g7.at hin _) (g7.at hini _) rfl hd (by omega) (by omega) hKn.2.1 rfl fun H1 kC hkC e1 z1 o1 => ?_
  have hL := qL.back (w := [jO 1 H.size]) (L := []) hJ (fun k q hk => ?_) ⟨fun i j p q hi hj _ => ?_, fun k q hk => ?_⟩ (by omega) (fun q hq _ => o1 q hq) (fun q h => by simp at h)
  · rw [List.append_nil] at hL
    exact kk H.size (by omega) (by omega) H1 locs ls hL hl
  · have h1 := (List.getElem?_eq_some_iff.mp hk).1
    simp at h1
    subst h1
    cases hk
    exact ⟨_, rfl, (u_born (ws := u_ws RJ4 TJ4 4) (args := #[]) tyJ4 (fun w hw => g7.at (ycl1.2.1 w hw) _) (fun _ h => h) hKn hkC e1 ycl1.2.2.1).to (by decide +kernel)⟩
  · have h1 := (List.getElem?_eq_some_iff.mp hi).1
    have h2 := (List.getElem?_eq_some_iff.mp hj).1
    simp at h1 h2
    omega
  · have h1 := (List.getElem?_eq_some_iff.mp hk).1
    simp at h1
    subst h1
    cases hk
    exact Or.inr (Nat.le_refl _)
/-- what a callee over the world ws asks -/
theorem qWo {p : Program} {l : Launch} {e : Env} {R : Room} {s : State} {m : MethodId} {args : Array Value} {below : List Frame} {meth : Method} {c : Code} {Q : State → Prop} {nn : Nat} {H : Heap} {locs : List Loc} {U : State} {os' : List oSt} (hG : nOK (p, l, e, R, s, m, args, below, meth, c, Q, nn) own cc nL) (hQ : qG (p, l, e, R, s, m, args, below, meth, c, Q, nn) D cB adK adV) (hJ : uJ (p, l, e, R, s, m, args, below, meth, c, Q, nn) (qL (p, l, e, R, s, m, args, below, meth, c, Q, nn) D cB cS adK ar k0 ws os ds) H locs) (ho : ∀ o ∈ os', o ∈ os) (hU : U.heap = H) (hW : s.WarmedH U.vm) : U.heap.size = H.size ∧ va_P D jCl ws U.heap ∧ va_K D jCl [(cB, .byte)] U ∧ va_D (va_A ws H.size) ws ∧ zTb U ∧ oOut os' (va_A ws H.size) U U.heap := by
  obtain ⟨hS, f, hf, hP, hD, hos, hds⟩ := hJ
  obtain ⟨hDt, hne⟩ := hD.tail
  have hin : ∀ q, va_A ws H.size q → s.heap.size ≤ q := by
    rintro q (⟨k, e, hk⟩ | hq)
    · exact hDt.2 k _ hk
    · exact Nat.le_trans hS.1 hq
  refine ⟨by rw [hU], by rw [hU]; exact (va_P.cons.mp hP).2, va_K.moved hW.alike hQ.1, hDt.self, hG.2.2.2.2.2.warm hW, ?_⟩
  rw [hU]
  have hX := ((hQ.2.1.kept hS.2.1).moved hW).narrow hin
  exact ⟨hX.1, hX.2.1, fun o hm => ((hos o (ho o hm)).moved hW.alike).narrow fun q hq => qA_cons.mpr (Or.inr hq)⟩
theorem q_back {p : Program} {l : Launch} {e : Env} {R : Room} {s : State} {m : MethodId} {args : Array Value} {below : List Frame} {meth : Method} {c : Code} {nn : Nat} {H : Heap} {locs : List Loc} {mc ms : Nat} {Q : State → Prop} {ls : Array Slot} {st0 rest : List Value} {post : Option Value → va_W → Prop} {a : Array Value}
    (hr : va_Run p l e R s m args below meth c H locs cells slots mc ms (F0 m pc ls st0) rest (yQ D ws H.size post a) (va_A ws H.size)) (hJ : uJ (p, l, e, R, s, m, args, below, meth, c, Q, nn) (qL (p, l, e, R, s, m, args, below, meth, c, Q, nn) D cB cS adK ar k0 ws os ds) H locs)
    (kk : ∀ (r : Option Value) (w : va_W) (H1 : Heap) (locs1 : List Loc), post r w → uJ (p, l, e, R, s, m, args, below, meth, c, Q, nn) (qL (p, l, e, R, s, m, args, below, meth, c, Q, nn) D cB cS adK ar k0 w os ds) H1 locs1 → W p l e R s m args below meth c H1 locs1 (cells + mc) (slots + ms) Q (F0 m (pc + 3) ls (r.toList ++ rest))) : W p l e R s m args below meth c H locs cells slots Q (F0 m pc ls st0) := by
  intro T hT X
  obtain ⟨v, st₀, t, T', L, h0, X', hL, e1, e2, ⟨⟨r, w, hv, hp, hb, hd⟩, hF⟩, st⟩ := hr T hT X
  cases hv
  have h1 : H.size ≤ T'.heap.size := by rw [e1, ← h0]; exact hF.1
  obtain ⟨t2, a1, b1⟩ := kk v w T'.heap (locs ++ L) hp (qL.back hJ (by rw [e1]; exact hb) hd h1 (fun q hq hn => by rw [e1, hF.2 q (by rw [h0]; exact hq) hn, h0]) hL) T' rfl X'
  exact ⟨t2, st t2 a1, b1⟩
/-- virtual, on the world's builder (the world's object q0) -/
theorem q_callU {index maxL n b ci q0 N : Nat} {C : String} {T : u_T} {fs : List Value} {y : MethodName} {cy : ByteArray} {ret : Option FieldType} {rm rmG : Room} {os' : List oSt} {post : Option Value → va_W → Prop} (As : List Value) (hG : nOK G own cc nL) (hQ : qG G D cB adK adV) (hRm : nRoom G rmG)
    (hM : ∀ (l : Launch) (D : va_G), yMt l y cy maxL ret rm D cB ws os' (.ref b :: As) post) (ho : ∀ o ∈ os', o ∈ os) (hy : zHead y cy maxL n ret) (hl : zWd (.methodLink own index y)) (hi : zWd (.instanceMethod y)) (hse : zWd (.selects C y y)) (hc0 : jCl[ci]? = some (C, T, N)) (he : ws[q0]? = some (b, .inr (ci, fs)))
    (hf : rm.frames + 1 ≤ rmG.frames) (hlo : 8 + (maxL + 11) + rm.locals ≤ rmG.locals) (hce : cells + rm.cells ≤ rmG.cells) (hsl : slots + rm.slots ≤ rmG.slots) (hn : As.length = n) (hstk : stk = As.reverse ++ .ref b :: st) (hcat : (st.map fun v => v.category).sum ≤ 8) (hd : decode cc pc = .ok (.invokevirtual index, 3))
    (kk : ∀ (r : Option Value) (w : va_W), post r w → nW G (uJ G (qL G D cB cS adK ar k0 w os ds)) (cells + rm.cells) (slots + rm.slots) lv (r.toList ++ st) (pc + 3)) : nW G (uJ G (qL G D cB cS adK ar k0 ws os ds)) cells slots lv stk pc := by
  obtain ⟨p, l, e, R, s, m, args, below, meth, c, Q, nn⟩ := G
  intro hc hs H locs ls hJ hl2
  have r1 := hRm.1
  have r2 := hRm.2.1
  have r3 := hRm.2.2.1
  have r4 := hRm.2.2.2
  have hG' := hG
  obtain ⟨g1, g2, g3, g4, g5, g7⟩ := hG
  subst hstk
  refine q_back (rest := st) (va_runV (As := As) ⟨g1, g2, g4, g3, fun w (hw : w ∈ []) => (List.not_mem_nil hw).elim⟩ (hM l D H.size) ⟨nCallB hG' hy hl ⟨by omega, by omega⟩, g7.at hi _, g7.at hse _⟩ ⟨yPre_blind, va_recv hQ.1 (va_P.cons.mp hJ.2.choose_spec.2.1).2 hc0 he, fun U hU hW => ⟨rfl, qWo hG' hQ hJ ho hU hW⟩⟩ rfl hn hl2.1 rfl (lv_room hcat) hd ⟨by omega, by omega⟩) hJ (fun r w H1 locs1 hp hJ1 => ?_)
  exact kk r w hp (by omega) (by omega) H1 locs1 ls hJ1 hl2
theorem q_callI {index maxL n b : Nat} {y : MethodName} {cy : ByteArray} {rm rmG : Room} {os' : List oSt} {post : Option Value → va_W → Prop} (As : List Value) (hG : nOK G own cc nL) (hQ : qG G D cB adK adV) (hRm : nRoom G rmG)
    (hM : ∀ (l : Launch) (D : va_G), yMt l y cy maxL none rm D cB ws os' (.ref b :: As) post) (ho : ∀ o ∈ os', o ∈ os) (hy : zHead y cy maxL n none) (hyn : y.name = "<init>") (hl : zWd (.methodLink own index y)) (hi : zWd (.instanceMethod y))
    (hf : rm.frames + 1 ≤ rmG.frames) (hlo : 8 + (maxL + 11) + rm.locals ≤ rmG.locals) (hce : cells + rm.cells ≤ rmG.cells) (hsl : slots + rm.slots ≤ rmG.slots) (hn : As.length = n) (hstk : stk = As.reverse ++ .ref b :: st) (hcat : (st.map fun v => v.category).sum ≤ 8) (hd : decode cc pc = .ok (.invokespecial index, 3))
    (kk : ∀ (r : Option Value) (w : va_W), post r w → nW G (uJ G (qL G D cB cS adK ar k0 w os ds)) (cells + rm.cells) (slots + rm.slots) lv (r.toList ++ st) (pc + 3)) : nW G (uJ G (qL G D cB cS adK ar k0 ws os ds)) cells slots lv stk pc := by
  obtain ⟨p, l, e, R, s, m, args, below, meth, c, Q, nn⟩ := G
  intro hc hs H locs ls hJ hl2
  have r1 := hRm.1
  have r2 := hRm.2.1
  have r3 := hRm.2.2.1
  have r4 := hRm.2.2.2
  have hG' := hG
  obtain ⟨g1, g2, g3, g4, g5, g7⟩ := hG
  subst hstk
  refine q_back (rest := st) (va_runI (As := As) (Ts := []) ⟨g1, g2, g4, g3, fun w (hw : w ∈ []) => (List.not_mem_nil hw).elim⟩ (hM l D H.size) ⟨nCallB hG' hy hl ⟨by omega, by omega⟩, hyn, g7.at hi _⟩ ⟨yPre_blind, fun U hU hW => ⟨rfl, qWo hG' hQ hJ ho hU hW⟩⟩ rfl hn hl2.1 rfl (lv_room hcat) hd ⟨by omega, by omega⟩) hJ (fun r w H1 locs1 hp hJ1 => ?_)
  exact kk r w hp (by omega) (by omega) H1 locs1 ls hJ1 hl2
/-- a String of os, for its length -/
theorem qStr (hQ : qG G D cB adK adV) {o : oSt} (ho : o ∈ os) : nStr G (uJ G (qL G D cB cS adK ar k0 ws os ds)) o := by
  intro H locs hJ
  obtain ⟨hS, f, hf, hP, hD, hos, hds⟩ := hJ
  have hX := (hQ.2.1.kept hS.2.1).narrow (B := fun q => H.size ≤ q) (fun q hq => Nat.le_trans hS.1 hq)
  refine ⟨hX.1, hX.2.1, fun o' hm => ?_⟩
  cases List.mem_singleton.mp hm
  exact (hos _ ho).narrow fun q hq => Or.inr hq
end QR
