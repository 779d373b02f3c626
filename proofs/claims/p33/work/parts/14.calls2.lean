/-! the rows of the calls -/
def zX (G : zCx) (F : zFr) (cells slots : Nat) (I : zStore) (lv : zLv) (E : String) (pc : Nat) : Prop := match G with
  | (p, l, e, R, s, m, args, below, meth, c, Q, A, n, D, cs) => cells ≤ R.cells → slots ≤ R.slots → ∀ (H : Heap) (locs : List Loc) (ls : Array Slot) (rest : List Value) (q : Addr) (ce : Cell), va_P D vwCl (zws cs F I) H → va_D A (zws cs F I) → va_S A s.heap H locs → lv_has ls n lv → H[q]? = some ce → ce.vm = .none → s.vm.findClass E = some ce.cls → vx_W p l e R s m args below meth c H locs cells slots Q (F0 m pc ls rest) q
def zSite (cls text : String) (names : List String) (ik is ic : Nat) : Prop := Bundle.fit cls = true ∧ (∀ n ∈ names, Bundle.fit n = true) ∧ zWd (.classLink "LineLearner" ik cls) ∧ zWd (.initialized cls) ∧ (is, text) ∈ zStrs ∧ (∀ w ∈ vx_atS "LineLearner" ic cls names, zWd w) ∧ (∀ w ∈ Cond.classLink "LineLearner" ik cls :: Cond.initialized cls :: vx_atS "LineLearner" ic cls names, vx_ot w = true)
/-- where a method may throw: straight out of it (S: the text by ldc, W: by ldc_w), or out of a callee -/
def zThrS (G : zCx) (F : zFr) (cc : ByteArray) (mc ms : Nat) (px : String → zStore → Prop) : Prop := ∀ (cls text : String) (names : List String) (ik is ic : Nat) (I : zStore) (lv : zLv) (st : List Value) (pc cells slots : Nat) (rm : Room), zSite cls text names ik is ic → decode cc pc = .ok (.new ik, 3) → decode cc (pc + 3) = .ok (.dup, 1) → decode cc (pc + 4) = .ok (.ldc is, 2) → decode cc (pc + 6) = .ok (.invokespecial ic, 3) → decode cc (pc + 9) = .ok (.athrow, 1) → zRoom G rm → names.length + 3 < rm.frames → (st.map fun v => v.category).sum + (13 * (names.length + 1) + 43) ≤ rm.locals → cells + 1 ≤ mc → slots + 6 ≤ ms → mc ≤ rm.cells → ms ≤ rm.slots → px cls I → zW G F cells slots I lv st pc
def zThrW (G : zCx) (F : zFr) (cc : ByteArray) (mc ms : Nat) (px : String → zStore → Prop) : Prop := ∀ (cls text : String) (names : List String) (ik is ic : Nat) (I : zStore) (lv : zLv) (st : List Value) (pc cells slots : Nat) (rm : Room), zSite cls text names ik is ic → decode cc pc = .ok (.new ik, 3) → decode cc (pc + 3) = .ok (.dup, 1) → decode cc (pc + 4) = .ok (.ldc_w is, 3) → decode cc (pc + 7) = .ok (.invokespecial ic, 3) → decode cc (pc + 10) = .ok (.athrow, 1) → zRoom G rm → names.length + 3 < rm.frames → (st.map fun v => v.category).sum + (13 * (names.length + 1) + 43) ≤ rm.locals → cells + 1 ≤ mc → slots + 6 ≤ ms → mc ≤ rm.cells → ms ≤ rm.slots → px cls I → zW G F cells slots I lv st pc
def zThrO (G : zCx) (F : zFr) (mc ms : Nat) (px : String → zStore → Prop) : Prop := ∀ (E : String) (I : zStore) (lv : zLv) (pc cells slots : Nat), cells ≤ mc → slots ≤ ms → px E I → zX G F cells slots I lv E pc
def zThr (G : zCx) (F : zFr) (cc : ByteArray) (mc ms : Nat) (px : String → zStore → Prop) : Prop := zThrS G F cc mc ms px ∧ zThrW G F cc mc ms px ∧ zThrO G F mc ms px
section ZD
variable {G : zCx} {F : zFr} {cells slots : Nat} {I : zStore} {lv lv' : zLv} {st stk : List Value} {pc : Nat} {own : String} {cc : ByteArray} {nL : Nat}
theorem z_widen {k n : Nat} (h1 : cells ≤ k) (h2 : slots ≤ n) {rm : Room} (hR : zRoom G rm) (hk : k ≤ rm.cells) (hn : n ≤ rm.slots) (kk : zW G F k n I lv st pc) : zW G F cells slots I lv st pc := by
  obtain ⟨p, l, e, R, s, m, args, below, meth, c, Q, A, nn, D, cs⟩ := G
  intro hc hs H locs ls hP hD hS hl
  exact W.widen h1 h2 (kk (Nat.le_trans hk hR.2.2.1) (Nat.le_trans hn hR.2.2.2) H locs ls hP hD hS hl)
theorem zThr.of {p : Program} {l : Launch} {e : Env} {R : Room} {s : State} {m : MethodId} {args : Array Value} {below : List Frame} {meth : Method} {c : Code} {Qc : Array Value → State → Outcome → State → Prop} {nn : Nat} {D : va_G} {cs : Nat → ClassId} {mc ms : Nat} {px : String → zStore → Prop} {sz : Nat} (hsz : s.heap.size = sz)
    (hG : zOK (p, l, e, R, s, m, args, below, meth, c, vx_MQ below Qc (zXC D cs F sz px) args s mc ms (zAd F sz), zAd F sz, nn, D, cs) "LineLearner" cc nL) (hlocks : meth.locks = false) (hout : ∀ x ∈ c.exceptionTable.toList, False) :
    zThr (p, l, e, R, s, m, args, below, meth, c, vx_MQ below Qc (zXC D cs F sz px) args s mc ms (zAd F sz), zAd F sz, nn, D, cs) F cc mc ms px := by
  subst hsz
  obtain ⟨g1, g2, g3, g4, g5, g6, g7, g8, g9, g10, g11⟩ := hG
  refine ⟨?_, ?_, ?_⟩
  · intro cls text names ik is ic I lv st pc cells slots rm hsite d0 d3 d4 d6 d9 hR hf hlo hc1 hs1 hmc hms hp hc hs H locs ls hP hD hS hl
    obtain ⟨s1, s2, s3, s4, s5, s6, s7⟩ := hsite
    obtain ⟨sa, hstr⟩ := g9 _ s5
    have r3 := hR.2.2.1
    have r4 := hR.2.2.2
    have r1 := hR.1
    have r2 := hR.2.1
    refine vx_throwS g1 g2 g11 g3 s1 s2 (g7.at s3 _) (g7.at s4 _) hstr (fun w hw => g7.at (s6 w hw) _) s7 g8.1 g8.2.1 hS (by rw [hl.1, g4]) d0 d3 d4 d6 d9 (fun x hx => (hout x hx).elim) (by omega) (by omega) (by omega) (by omega) hlocks (fun t hal hz hk => ⟨⟨I, hp, hP.kept fun k q hq => hk _ (hP k q hq).lt⟩, ?_⟩) hS.2.2 hc1 hs1
    exact ⟨Nat.le_trans hS.1 hz, fun q h1 h2 => (hk q (Nat.lt_of_lt_of_le h1 hS.1)).trans (hS.2.1 q h1 h2)⟩
  · intro cls text names ik is ic I lv st pc cells slots rm hsite d0 d3 d4 d6 d9 hR hf hlo hc1 hs1 hmc hms hp hc hs H locs ls hP hD hS hl
    obtain ⟨s1, s2, s3, s4, s5, s6, s7⟩ := hsite
    obtain ⟨sa, hstr⟩ := g9 _ s5
    have r3 := hR.2.2.1
    have r4 := hR.2.2.2
    have r1 := hR.1
    have r2 := hR.2.1
    refine vx_throwSW g1 g2 g11 g3 s1 s2 (g7.at s3 _) (g7.at s4 _) hstr (fun w hw => g7.at (s6 w hw) _) s7 g8.1 g8.2.1 hS (by rw [hl.1, g4]) d0 d3 d4 d6 d9 (fun x hx => (hout x hx).elim) (by omega) (by omega) (by omega) (by omega) hlocks (fun t hal hz hk => ⟨⟨I, hp, hP.kept fun k q hq => hk _ (hP k q hq).lt⟩, ?_⟩) hS.2.2 hc1 hs1
    exact ⟨Nat.le_trans hS.1 hz, fun q h1 h2 => (hk q (Nat.lt_of_lt_of_le h1 hS.1)).trans (hS.2.1 q h1 h2)⟩
  · intro E I lv pc cells slots hc1 hs1 hp hc hs H locs ls rest q ce hP hD hS hl hce hcv hcl
    refine vx_out (fun x hx => (hout x hx).elim) hlocks hce hcv hcl (fun t ht hal => ⟨⟨I, hp, by rw [ht]; exact hP⟩, hS.F ht⟩) hS.2.2 hc1 hs1
theorem zMx.ofI {l : Launch} {y : MethodName} {maxL : Nat} {rm : Room} {D : va_G} {cs : Nat → ClassId} {av : List Value} {post : Option Value → zStore → Prop} {px : String → zStore → Prop} (hst : l.stackTraces = false) (hy : plainName y.cls = true) (hyc : y.cls = "LineLearner") (hlen : (lg_sl av).length ≤ maxL)
    (k : ∀ G, zOK G y.cls cc maxL → zRoom G rm → zRetI G F cc rm.cells rm.slots post → zThr G F cc rm.cells rm.slots px → zW G F 0 0 I (lv_args 0 av) [] 0) : zMx l y cc maxL (some .int) rm D cs F I av post px := by
  intro sz
  refine vx_ofW (cc := cc) (maxL := maxL) (ret := some .int) hy rfl ?_
  intro p e s m args below meth c s₁ B hml hex hv
  have hsz := hv.2.1
  refine zBody hst hlen _ B hml hv (fun G hG hok hrm => k G hok hrm ?_ ?_)
  · subst hG
    intro x I1 lv1 pc1 hd hp hc hs H locs ls hP hD hS hl
    exact vx_ret (W.iret (v := x) B.exec B.bytes B.returns (fun t ht hW => ⟨⟨_, I1, rfl, hp, by rw [ht]; exact hP⟩, hS.F ht⟩) hS.2.2 hd B.notSynchronized)
  · subst hG
    rw [hyc] at hok
    exact zThr.of hsz hok B.notSynchronized hex
theorem zMx.ofZ {l : Launch} {y : MethodName} {maxL : Nat} {rm : Room} {D : va_G} {cs : Nat → ClassId} {av : List Value} {post : Option Value → zStore → Prop} {px : String → zStore → Prop} (hst : l.stackTraces = false) (hy : plainName y.cls = true) (hyc : y.cls = "LineLearner") (hlen : (lg_sl av).length ≤ maxL)
    (k : ∀ G, zOK G y.cls cc maxL → zRoom G rm → zRetZ G F cc rm.cells rm.slots post → zThr G F cc rm.cells rm.slots px → zW G F 0 0 I (lv_args 0 av) [] 0) : zMx l y cc maxL (some .boolean) rm D cs F I av post px := by
  intro sz
  refine vx_ofW (cc := cc) (maxL := maxL) (ret := some .boolean) hy rfl ?_
  intro p e s m args below meth c s₁ B hml hex hv
  have hsz := hv.2.1
  refine zBody hst hlen _ B hml hv (fun G hG hok hrm => k G hok hrm ?_ ?_)
  · subst hG
    intro x I1 lv1 pc1 hd hx hp hc hs H locs ls hP hD hS hl
    exact vx_ret (W.zret (v := zI x) B.exec B.bytes B.returns (by rcases hx with rfl | rfl <;> rfl) (fun t ht hW => ⟨⟨_, I1, rfl, hp, by rw [ht]; exact hP⟩, hS.F ht⟩) hS.2.2 hd B.notSynchronized)
  · subst hG
    rw [hyc] at hok
    exact zThr.of hsz hok B.notSynchronized hex
theorem zMx.ofV {l : Launch} {y : MethodName} {maxL : Nat} {rm : Room} {D : va_G} {cs : Nat → ClassId} {av : List Value} {post : Option Value → zStore → Prop} {px : String → zStore → Prop} (hst : l.stackTraces = false) (hy : plainName y.cls = true) (hyc : y.cls = "LineLearner") (hlen : (lg_sl av).length ≤ maxL)
    (k : ∀ G, zOK G y.cls cc maxL → zRoom G rm → zRetV G F cc rm.cells rm.slots post → zThr G F cc rm.cells rm.slots px → zW G F 0 0 I (lv_args 0 av) [] 0) : zMx l y cc maxL none rm D cs F I av post px := by
  intro sz
  refine vx_ofW (cc := cc) (maxL := maxL) (ret := none) hy rfl ?_
  intro p e s m args below meth c s₁ B hml hex hv
  have hsz := hv.2.1
  refine zBody hst hlen _ B hml hv (fun G hG hok hrm => k G hok hrm ?_ ?_)
  · subst hG
    intro I1 lv1 pc1 hd hp hc hs H locs ls hP hD hS hl
    exact vx_ret (W.vret B.exec B.bytes B.returns (fun t ht hW => ⟨⟨_, I1, rfl, hp, by rw [ht]; exact hP⟩, hS.F ht⟩) hS.2.2 hd B.notSynchronized)
  · subst hG
    rw [hyc] at hok
    exact zThr.of hsz hok B.notSynchronized hex
/-- a virtual call (invokevirtual, the class's own word) of a method that returns -/
theorem z_callV {index maxL n ci b N : Nat} {C : String} {T : u_T} {fs : List (Option (Option Nat))} {y : MethodName} {cy : ByteArray} {ret : Option FieldType} {rm rmG : Room} {post : Option Value → zStore → Prop} (As : List Value) (hG : zOK G own cc nL) (hRm : zRoom G rmG)
    (hM : ∀ (l : Launch) (D : va_G) (cs : Nat → ClassId), l.stackTraces = false → zMt l y cy maxL ret rm D cs F I (.ref (F.1 b) :: As) post) (hy : zHead y cy maxL n ret) (hl : zWd (.methodLink own index y)) (hi : zWd (.instanceMethod y)) (hse : zWd (.selects C y y)) (hc0 : vwCl[ci]? = some (C, T, N)) (hb : b < F.2.1) (hlay : F.2.2 b = .inl (ci, fs))
    (hf : rm.frames + 1 ≤ rmG.frames) (hlo : 8 + (maxL + 11) + rm.locals ≤ rmG.locals) (hce : cells + rm.cells ≤ rmG.cells) (hsl : slots + rm.slots ≤ rmG.slots) (hn : As.length = n) (hstk : stk = As.reverse ++ .ref (F.1 b) :: st) (hcat : (st.map fun v => v.category).sum ≤ 8) (hd : decode cc pc = .ok (.invokevirtual index, 3))
    (kk : ∀ (r : Option Value) (I' : zStore), post r I' → zW G F (cells + rm.cells) (slots + rm.slots) I' lv (r.toList ++ st) (pc + 3)) : zW G F cells slots I lv stk pc := by
  obtain ⟨p, l, e, R, s, m, args, below, meth, c, Q, A, nn, D, cs⟩ := G
  intro hc hs H locs ls hP hD hS hl2
  have r1 := hRm.1
  have r2 := hRm.2.1
  have r3 := hRm.2.2.1
  have r4 := hRm.2.2.2
  have hG' := hG
  obtain ⟨g1, g2, g3, g4, g5, g6, g7, g8, g9, g10, g11⟩ := hG
  subst hstk
  refine z_back (D := D) (cs := cs) (F := F) (rest := st) (va_runV (As := As) ⟨g1, g2, g4, g3, fun w (hw : w ∈ []) => (List.not_mem_nil hw).elim⟩ (hM l D cs g11 H.size) ⟨zCallB hG' hy hl ⟨by omega, by omega⟩, g7.at hi _, g7.at hse _⟩ ⟨zPre_blind, zRecv g6 hP hc0 hb hlay, fun U hU hW => ⟨rfl, zWo_in hG' hP hD hS hU hW⟩⟩ rfl hn hl2.1 rfl (lv_room hcat) hd ⟨by omega, by omega⟩) hS (zAd_in (G := (p, l, e, R, s, m, args, below, meth, c, Q, A, nn, D, cs)) hG' hD hS) (fun r u H1 locs1 hp hP1 hS1 => ?_)
  exact kk r u hp (by omega) (by omega) H1 locs1 ls hP1 (zD_of (zD_inj hD) (fun k hk => zD_in hD hk)) hS1 hl2
theorem z_callS {index maxL n : Nat} {y : MethodName} {cy : ByteArray} {ret : Option FieldType} {rm rmG : Room} {post : Option Value → zStore → Prop} (As : List Value) (hG : zOK G own cc nL) (hRm : zRoom G rmG)
    (hM : ∀ (l : Launch) (D : va_G) (cs : Nat → ClassId), l.stackTraces = false → zMt l y cy maxL ret rm D cs F I As post) (hy : zHead y cy maxL n ret) (hl : zWd (.methodLink own index y)) (hi : zWd (.static y))
    (hf : rm.frames + 1 ≤ rmG.frames) (hlo : 8 + (maxL + 11) + rm.locals ≤ rmG.locals) (hce : cells + rm.cells ≤ rmG.cells) (hsl : slots + rm.slots ≤ rmG.slots) (hn : As.length = n) (hstk : stk = As.reverse ++ st) (hcat : (st.map fun v => v.category).sum ≤ 8) (hd : decode cc pc = .ok (.invokestatic index, 3))
    (kk : ∀ (r : Option Value) (I' : zStore), post r I' → zW G F (cells + rm.cells) (slots + rm.slots) I' lv (r.toList ++ st) (pc + 3)) : zW G F cells slots I lv stk pc := by
  obtain ⟨p, l, e, R, s, m, args, below, meth, c, Q, A, nn, D, cs⟩ := G
  intro hc hs H locs ls hP hD hS hl2
  have r1 := hRm.1
  have r2 := hRm.2.1
  have r3 := hRm.2.2.1
  have r4 := hRm.2.2.2
  have hG' := hG
  obtain ⟨g1, g2, g3, g4, g5, g6, g7, g8, g9, g10, g11⟩ := hG
  subst hstk
  refine z_back (D := D) (cs := cs) (F := F) (rest := st) (va_runS (As := As) (Ts := []) ⟨g1, g2, g4, g3, fun w (hw : w ∈ []) => (List.not_mem_nil hw).elim⟩ (hM l D cs g11 H.size) ⟨zCallB hG' hy hl ⟨by omega, by omega⟩, g7.at hi _⟩ ⟨zPre_blind, fun U hU hW => ⟨rfl, zWo_in hG' hP hD hS hU hW⟩⟩ rfl hn hl2.1 rfl (lv_room hcat) hd ⟨by omega, by omega⟩) hS (zAd_in (G := (p, l, e, R, s, m, args, below, meth, c, Q, A, nn, D, cs)) hG' hD hS) (fun r u H1 locs1 hp hP1 hS1 => ?_)
  exact kk r u hp (by omega) (by omega) H1 locs1 ls hP1 (zD_of (zD_inj hD) (fun k hk => zD_in hD hk)) hS1 hl2
theorem zCallN {p : Program} {l : Launch} {e : Env} {R : Room} {s : State} {m : MethodId} {args : Array Value} {below : List Frame} {meth : Method} {c : Code} {Q : State → Prop} {A : Nat → Prop} {nn : Nat} {D : va_G} {cs : Nat → ClassId} {index maxL n : Nat} {y : MethodName} {cy : ByteArray} {ret : Option FieldType} {rm : Room} {host : String} (hG : zOK (p, l, e, R, s, m, args, below, meth, c, Q, A, nn, D, cs) own cc nL) (hy : zHead y cy maxL n ret) (hl : zWd (.methodLinkNest own index y host)) (hR : rm.frames + 1 ≤ R.frames ∧ 8 + (maxL + 11) + rm.locals ≤ R.locals) : va_CN R s args own index y host cy maxL ret [.code y cy maxL ret] rm rm.cells rm.slots n := by
  obtain ⟨g1, g2, g3, g4, g5, g6, g7, g8, g9, g10, g11⟩ := hG
  obtain ⟨y1, y2, y3, y4, y5⟩ := hy
  refine ⟨⟨rfl, rfl, hR.1, hR.2, fun w hw a' U hW => ?_, List.mem_cons_self⟩, g7.at y1 _, g7.at y2 _, ⟨y3, y4⟩, fun sig h => ?_, g7.at hl _⟩
  · cases List.mem_singleton.mp hw
    exact zst_warm y1.2 hW (g7.at y1 #[])
  · rw [h] at y5
    exact (Option.some.inj y5).symm
theorem z_callSN {index maxL n : Nat} {host : String} {y : MethodName} {cy : ByteArray} {ret : Option FieldType} {rm rmG : Room} {post : Option Value → zStore → Prop} (As : List Value) (hG : zOK G own cc nL) (hRm : zRoom G rmG)
    (hM : ∀ (l : Launch) (D : va_G) (cs : Nat → ClassId), l.stackTraces = false → zMt l y cy maxL ret rm D cs F I As post) (hy : zHead y cy maxL n ret) (hl : zWd (.methodLinkNest own index y host)) (hi : zWd (.static y))
    (hf : rm.frames + 1 ≤ rmG.frames) (hlo : 8 + (maxL + 11) + rm.locals ≤ rmG.locals) (hce : cells + rm.cells ≤ rmG.cells) (hsl : slots + rm.slots ≤ rmG.slots) (hn : As.length = n) (hstk : stk = As.reverse ++ st) (hcat : (st.map fun v => v.category).sum ≤ 8) (hd : decode cc pc = .ok (.invokestatic index, 3))
    (kk : ∀ (r : Option Value) (I' : zStore), post r I' → zW G F (cells + rm.cells) (slots + rm.slots) I' lv (r.toList ++ st) (pc + 3)) : zW G F cells slots I lv stk pc := by
  obtain ⟨p, l, e, R, s, m, args, below, meth, c, Q, A, nn, D, cs⟩ := G
  intro hc hs H locs ls hP hD hS hl2
  have r1 := hRm.1
  have r2 := hRm.2.1
  have r3 := hRm.2.2.1
  have r4 := hRm.2.2.2
  have hG' := hG
  obtain ⟨g1, g2, g3, g4, g5, g6, g7, g8, g9, g10, g11⟩ := hG
  subst hstk
  refine z_back (D := D) (cs := cs) (F := F) (rest := st) (va_runSN (As := As) (Ts := []) ⟨g1, g2, g4, g3, fun w (hw : w ∈ []) => (List.not_mem_nil hw).elim⟩ (hM l D cs g11 H.size) ⟨zCallN hG' hy hl ⟨by omega, by omega⟩, g7.at hi _, trivial⟩ ⟨zPre_blind, fun U hU hW => ⟨rfl, zWo_in hG' hP hD hS hU hW⟩⟩ rfl hn hl2.1 rfl (lv_room hcat) hd ⟨by omega, by omega⟩) hS (zAd_in (G := (p, l, e, R, s, m, args, below, meth, c, Q, A, nn, D, cs)) hG' hD hS) (fun r u H1 locs1 hp hP1 hS1 => ?_)
  exact kk r u hp (by omega) (by omega) H1 locs1 ls hP1 (zD_of (zD_inj hD) (fun k hk => zD_in hD hk)) hS1 hl2
/-- a call of a method that returns or throws -/
theorem zx_back {p : Program} {l : Launch} {e : Env} {R : Room} {s : State} {m : MethodId} {args : Array Value} {below : List Frame} {meth : Method} {c : Code} {H : Heap} {locs : List Loc} {mc ms : Nat} {Q : State → Prop} {D : va_G} {cs : Nat → ClassId} {A0 : Nat → Prop} {H0 : Heap} {ls : Array Slot} {st0 rest : List Value} {post : Option Value → zStore → Prop} {px : String → zStore → Prop} {a : Array Value}
    (hr : vx_Run p l e R s m args below meth c H locs cells slots mc ms (F0 m pc ls st0) rest (zQ D cs F H.size post a) (zXC D cs F H.size px) (zAd F H.size)) (hS : va_S A0 H0 H locs) (hA : ∀ q, zAd F H.size q → A0 q)
    (kx : ∀ (E : String) (ce : Cell) (q9 : Addr) (u : zStore) (H1 : Heap) (locs1 : List Loc), px E u → va_P D vwCl (zws cs F u) H1 → va_S A0 H0 H1 locs1 → H1[q9]? = some ce → ce.vm = .none → s.vm.findClass E = some ce.cls → vx_W p l e R s m args below meth c H1 locs1 (cells + mc) (slots + ms) Q (F0 m pc ls rest) q9)
    (kk : ∀ (r : Option Value) (u : zStore) (H1 : Heap) (locs1 : List Loc), post r u → va_P D vwCl (zws cs F u) H1 → va_S A0 H0 H1 locs1 → W p l e R s m args below meth c H1 locs1 (cells + mc) (slots + ms) Q (F0 m (pc + 3) ls (r.toList ++ rest))) : W p l e R s m args below meth c H locs cells slots Q (F0 m pc ls st0) := by
  intro T hT X
  rcases hr T hT X with ⟨v, st₀, t, T', L, h0, X', hL, e1, e2, ⟨⟨r, u, hv, hp, hb⟩, hF⟩, st⟩ | ⟨q, st₀, t, T', L, E, ce, h0, X', hL, e1, e2, ⟨⟨u, hp, hb⟩, hF⟩, hce, hcv, hcl, st⟩
  · cases hv
    obtain ⟨k1, k2, k3⟩ := vx_keep h0 e1 hS (fun q _ h => hA q h) hA hL hF
    obtain ⟨t2, a1, b1⟩ := kk v u T'.heap (locs ++ L) hp (by rw [e1]; exact hb) k3 T' rfl X'
    exact ⟨t2, st t2 a1, b1⟩
  · obtain ⟨k1, k2, k3⟩ := vx_keep h0 e1 hS (fun q _ h => hA q h) hA hL hF
    obtain ⟨t2, a1, b1⟩ := kx E ce q u T'.heap (locs ++ L) hp (by rw [e1]; exact hb) k3 (by rw [e1]; exact hce) hcv hcl T' rfl X'
    exact ⟨t2, st.trans a1, b1⟩
theorem z_callVX {index maxL n ci b N : Nat} {C : String} {T : u_T} {fs : List (Option (Option Nat))} {y : MethodName} {cy : ByteArray} {ret : Option FieldType} {rm rmG : Room} {post : Option Value → zStore → Prop} {px : String → zStore → Prop} (As : List Value) (hG : zOK G own cc nL) (hRm : zRoom G rmG)
    (hM : ∀ (l : Launch) (D : va_G) (cs : Nat → ClassId), l.stackTraces = false → zMx l y cy maxL ret rm D cs F I (.ref (F.1 b) :: As) post px) (hy : zHead y cy maxL n ret) (hl : zWd (.methodLink own index y)) (hi : zWd (.instanceMethod y)) (hse : zWd (.selects C y y)) (hc0 : vwCl[ci]? = some (C, T, N)) (hb : b < F.2.1) (hlay : F.2.2 b = .inl (ci, fs))
    (hf : rm.frames + 1 ≤ rmG.frames) (hlo : 8 + (maxL + 11) + rm.locals ≤ rmG.locals) (hce : cells + rm.cells ≤ rmG.cells) (hsl : slots + rm.slots ≤ rmG.slots) (hn : As.length = n) (hstk : stk = As.reverse ++ .ref (F.1 b) :: st) (hcat : (st.map fun v => v.category).sum ≤ 8) (hd : decode cc pc = .ok (.invokevirtual index, 3))
    (kx : ∀ (E : String) (I' : zStore), px E I' → zX G F (cells + rm.cells) (slots + rm.slots) I' lv E pc)
    (kk : ∀ (r : Option Value) (I' : zStore), post r I' → zW G F (cells + rm.cells) (slots + rm.slots) I' lv (r.toList ++ st) (pc + 3)) : zW G F cells slots I lv stk pc := by
  obtain ⟨p, l, e, R, s, m, args, below, meth, c, Q, A, nn, D, cs⟩ := G
  intro hc hs H locs ls hP hD hS hl2
  have r1 := hRm.1
  have r2 := hRm.2.1
  have r3 := hRm.2.2.1
  have r4 := hRm.2.2.2
  have hG' := hG
  obtain ⟨g1, g2, g3, g4, g5, g6, g7, g8, g9, g10, g11⟩ := hG
  subst hstk
  refine zx_back (D := D) (cs := cs) (F := F) (rest := st) (vx_runV (As := As) ⟨g1, g2, g4, g3, fun w (hw : w ∈ []) => (List.not_mem_nil hw).elim⟩ (hM l D cs g11 H.size) ⟨zCallB hG' hy hl ⟨by omega, by omega⟩, g7.at hi _, g7.at hse _⟩ ⟨zPre_blind, zRecv g6 hP hc0 hb hlay, fun U hU hW => ⟨rfl, zWo_in hG' hP hD hS hU hW⟩⟩ rfl hn hl2.1 rfl (lv_room hcat) hd ⟨by omega, by omega⟩) hS (zAd_in (G := (p, l, e, R, s, m, args, below, meth, c, Q, A, nn, D, cs)) hG' hD hS) (fun E ce q9 u H1 locs1 hp hP1 hS1 h1 h2 h3 => ?_) (fun r u H1 locs1 hp hP1 hS1 => ?_)
  · exact kx E u hp (by omega) (by omega) H1 locs1 ls st q9 ce hP1 (zD_of (zD_inj hD) (fun k hk => zD_in hD hk)) hS1 hl2 h1 h2 h3
  · exact kk r u hp (by omega) (by omega) H1 locs1 ls hP1 (zD_of (zD_inj hD) (fun k hk => zD_in hD hk)) hS1 hl2
theorem zmin {a b : Int} (ha : -2147483648 ≤ a ∧ a < 2147483648) (hb : -2147483648 ≤ b ∧ b < 2147483648) : (if zI b < zI a then zI b else zI a) = zI (min a b) := by
  by_cases h : b < a
  · rw [if_pos ((zI_lt hb ha).mpr h), Int.min_eq_right (by omega)]
  · rw [if_neg (fun q => h ((zI_lt hb ha).mp q)), Int.min_eq_left (by omega)]
theorem zmax {a b : Int} (ha : -2147483648 ≤ a ∧ a < 2147483648) (hb : -2147483648 ≤ b ∧ b < 2147483648) : (if zI a < zI b then zI b else zI a) = zI (max a b) := by
  by_cases h : a < b
  · rw [if_pos ((zI_lt ha hb).mpr h), Int.max_eq_right (by omega)]
  · rw [if_neg (fun q => h ((zI_lt ha hb).mp q)), Int.max_eq_left (by omega)]
abbrev zMath (own : String) (index : Nat) (y : MethodName) (cy : ByteArray) : Prop := zWd (.methodLink own index y) ∧ zWd (.static y) ∧ zWd (.initialized "java/lang/Math") ∧ zWd (.code y cy 2 (some .int))
theorem z_min {index : Nat} {a b : Int} {rmG : Room} (hG : zOK G own cc nL) (hRm : zRoom G rmG) (hm : zMath own index Lib.Math.min.name Lib.Math.min.code) (hf : 1 ≤ rmG.frames) (hlo : (st.map fun v => v.category).sum + 13 ≤ rmG.locals) (ha : -2147483648 ≤ a ∧ a < 2147483648) (hb : -2147483648 ≤ b ∧ b < 2147483648) (hd : decode cc pc = .ok (.invokestatic index, 3)) (kk : zW G F cells slots I lv (.int (zI (min a b)) :: st) (pc + 3)) : zW G F cells slots I lv (.int (zI b) :: .int (zI a) :: st) pc := by
  obtain ⟨p, l, e, R, s, m, args, below, meth, c, Q, A, nn, D, cs⟩ := G
  intro hc hs H locs ls hP hD hS hl2
  have h := kk hc hs H locs ls hP hD hS hl2
  rw [← zmin ha hb] at h
  have r1 := hRm.1
  have r2 := hRm.2.1
  obtain ⟨g1, g2, g3, g4, g5, g6, g7, g8, g9, g10, g11⟩ := hG
  obtain ⟨m1, m2, m3, m4⟩ := hm
  exact va_mmin g1 g2 (g4.trans hl2.1.symm) g3 (g7.at m1 _) (g7.at m2 _) (g7.at m3 _) (g7.at m4 _) (by omega) (by omega) hc hs hd h
theorem z_max {index : Nat} {a b : Int} {rmG : Room} (hG : zOK G own cc nL) (hRm : zRoom G rmG) (hm : zMath own index Lib.Math.max.name Lib.Math.max.code) (hf : 1 ≤ rmG.frames) (hlo : (st.map fun v => v.category).sum + 13 ≤ rmG.locals) (ha : -2147483648 ≤ a ∧ a < 2147483648) (hb : -2147483648 ≤ b ∧ b < 2147483648) (hd : decode cc pc = .ok (.invokestatic index, 3)) (kk : zW G F cells slots I lv (.int (zI (max a b)) :: st) (pc + 3)) : zW G F cells slots I lv (.int (zI b) :: .int (zI a) :: st) pc := by
  obtain ⟨p, l, e, R, s, m, args, below, meth, c, Q, A, nn, D, cs⟩ := G
  intro hc hs H locs ls hP hD hS hl2
  have h := kk hc hs H locs ls hP hD hS hl2
  rw [← zmax ha hb] at h
  have r1 := hRm.1
  have r2 := hRm.2.1
  obtain ⟨g1, g2, g3, g4, g5, g6, g7, g8, g9, g10, g11⟩ := hG
  obtain ⟨m1, m2, m3, m4⟩ := hm
  exact va_mmax g1 g2 (g4.trans hl2.1.symm) g3 (g7.at m1 _) (g7.at m2 _) (g7.at m3 _) (g7.at m4 _) (by omega) (by omega) hc hs hd h
theorem z_ldc2 {index : Nat} {v : Int64} (n : Int) (hG : zOK G own cc nL) (hl : zWd (.constantLong own index v)) (hv : v = zJ n) (hd : decode cc pc = .ok (.ldc2_w index, 3)) (k : zW G F cells slots I lv (.long (zJ n) :: st) (pc + 3)) : zW G F cells slots I lv st pc := by
  obtain ⟨p, l, e, R, s, m, args, below, meth, c, Q, A, nn, D, cs⟩ := G
  intro hc hs H locs ls hP hD hS hl2
  subst hv
  exact lv_ldc2 hG.1 hG.2.1 hG.2.2.1 (hG.2.2.2.2.2.2.1.at hl _) hd (k hc hs H locs ls hP hD hS hl2)
theorem z_ldc {index : Nat} {v : Int32} (n : Int) (hG : zOK G own cc nL) (hl : zWd (.constant own index v)) (hv : v = zI n) (hd : decode cc pc = .ok (.ldc index, 2)) (k : zW G F cells slots I lv (.int (zI n) :: st) (pc + 2)) : zW G F cells slots I lv st pc := by
  obtain ⟨p, l, e, R, s, m, args, below, meth, c, Q, A, nn, D, cs⟩ := G
  intro hc hs H locs ls hP hD hS hl2
  subst hv
  exact lv_ldc hG.1 hG.2.1 hG.2.2.1 (hG.2.2.2.2.2.2.1.at hl _) hd (k hc hs H locs ls hP hD hS hl2)
end ZD
