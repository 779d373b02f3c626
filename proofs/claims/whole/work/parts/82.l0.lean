/-! methods with an exception table: contract, catching, call -/
theorem kca1 : zWd (Jvm.Cond.castable "java/lang/IllegalArgumentException" "java/lang/IllegalArgumentException") := ⟨List.mem_of_getElem? (i := 340) (by decide +kernel), by decide +kernel⟩
theorem kca2 : zWd (Jvm.Cond.castable "java/lang/IllegalStateException" "java/lang/IllegalStateException") := ⟨List.mem_of_getElem? (i := 407) (by decide +kernel), by decide +kernel⟩
theorem kca3 : zWd (Jvm.Cond.castable "java/lang/IndexOutOfBoundsException" "java/lang/IndexOutOfBoundsException") := ⟨List.mem_of_getElem? (i := 468) (by decide +kernel), by decide +kernel⟩
/-- the law's places: both systems and the row -/
def zLayL (F : zFr) : Prop := 130 ≤ F.2.1 ∧ ∀ k, k < 130 → F.2.2 k = zlay k
theorem zLayL.m {F : zFr} (h : zLayL F) : zLayM F := ⟨Nat.le_trans (by decide) h.1, fun k hk => h.2 k (Nat.lt_trans hk (by decide))⟩
theorem zl129 {F : zFr} (h : zLayL F) : F.2.2 129 = .inr (.inl (3, 1)) := (h.2 129 (by decide)).trans rfl
theorem zltL {F : zFr} (h : zLayL F) {k : Nat} (hk : k < 130) : k < F.2.1 := Nat.lt_of_lt_of_le hk h.1
abbrev zHh : Type := List (Nat × Nat × Nat × Nat)
def zMh (l : Launch) (y : MethodName) (cc : ByteArray) (maxL : Nat) (ret : Option FieldType) (hh : zHh) (rm : Room) (D : va_G) (cs : Nat → ClassId) (F : zFr) (I : zStore) (av : List Value) (post : Option Value → zStore → Prop) : Prop :=
  ∀ sz, Met l y [Cond.codeWith y cc maxL ret hh] rm (zPre D cs F I sz av) (zQ D cs F sz post) rm.cells rm.slots (zAd F sz)
def zTab (G : zCx) (hh : zHh) : Prop := match G with
  | (p, l, e, R, s, m, args, below, meth, c, Q, A, n, D, cs) => c.exceptionTable.toList = tableOf hh
theorem zMetH {l : Launch} {y : MethodName} {ws ws' : List Cond} {rm : Room} {Pc : Array Value → State → Prop} {Qc : Array Value → State → Outcome → State → Prop} {mc ms : Nat} {free : Addr → Prop} {cc : ByteArray} {maxL : Nat} {ret : Option FieldType} {hh : zHh}
    (hy : plainName y.cls = true) (hw : ws = Cond.codeWith y cc maxL ret hh :: ws')
    (body : ∀ p e s m args below meth c s₁, BodyLoose p l y (headSpec ws rm) cc maxL ret e s m args below meth c s₁ → c.maxLocals = maxL → c.exceptionTable.toList = tableOf hh → Pc args s →
      W p l e (headSpec ws rm).room s m args below meth c s.heap [] 0 0 (MQ below Qc args s mc ms free) (entryFrame m args maxL)) : Met l y ws rm Pc Qc mc ms free := by
  refine MetFree.of_bodyS (code := cc) (maxLocals := maxL) (ret := ret) hy ?_ ?_
  · intro args s m h hn
    obtain ⟨m9, meth, c, hn9, h1, h2, h3, h4, -, h5, h6, -⟩ := Cond.codeWith_spec (atoms_spec (ws := ws) h _ (by rw [hw]; exact List.mem_cons_self))
    cases hn.symm.trans hn9
    exact ⟨meth, c, h1, h2, h3, h4, h5, h6⟩
  · intro p e s m args below meth c s₁ B hml hP _
    have hh0 : s₁.heap = s.heap := by rw [B.state]; rfl
    have ht : c.exceptionTable.toList = tableOf hh := vx_table (x := y) B (atoms_spec (ws := ws) B.pre _ (by rw [hw]; exact List.mem_cons_self))
    obtain ⟨t, a1, o, b1, b2, b3⟩ := body p e s m args below meth c s₁ B hml ht hP s₁ hh0 (Stand.of_body B)
    exact ⟨t, o, a1, b1, b2, b3⟩
section ZMH
variable {G : zCx} {F : zFr} {cells slots : Nat} {I : zStore} {lv lv' : zLv} {st stk : List Value} {pc : Nat} {own : String} {cc : ByteArray} {nL : Nat}
theorem zMh.ofI {l : Launch} {y : MethodName} {maxL : Nat} {rm : Room} {D : va_G} {cs : Nat → ClassId} {av : List Value} {hh : zHh} {post : Option Value → zStore → Prop} (hst : l.stackTraces = false) (hy : plainName y.cls = true) (hlen : (lg_sl av).length ≤ maxL)
    (k : ∀ G, zOK G y.cls cc maxL → zTab G hh → zRoom G rm → zRetI G F cc rm.cells rm.slots post → zW G F 0 0 I (lv_args 0 av) [] 0) : zMh l y cc maxL (some .int) hh rm D cs F I av post := by
  intro sz
  refine zMetH (cc := cc) (maxL := maxL) (ret := some .int) hy rfl ?_
  intro p e s m args below meth c s₁ B hml htb hv
  refine zBody hst hlen _ B hml hv (fun G hG hok hrm => k G hok ?_ hrm ?_)
  · subst hG
    exact htb
  · subst hG
    intro x I1 lv1 pc1 hd hp hc hs H locs ls hP hD hS hl
    exact W.iret (v := x) B.exec B.bytes B.returns (fun t ht hW => ⟨⟨_, I1, rfl, hp, by rw [ht]; exact hP⟩, hS.F ht⟩) hS.2.2 hd B.notSynchronized
/-- caught by the first row -/
theorem z_catch1 (hG : zOK G own cc nL) {hh suf : zHh} (hT : zTab G hh) {a b h t : Nat} (he : hh = (a, b, h, t) :: suf) (hx : a ≤ pc ∧ pc < b) (h0 : t ≠ 0) {E : String} (hl : zWd (.classLink own t E)) (hc : zWd (.castable E E)) (kk : ∀ q : Addr, zW G F cells slots I lv [.ref q] h) : zX G F cells slots I lv E pc := by
  obtain ⟨p, l, e, R, s, m, args, below, meth, c, Q, A, nn, D, cs⟩ := G
  intro hc1 hs1 H locs ls rest q ce hP hD hS hlv hce hcv hcl
  obtain ⟨g1, g2, g3, g4, g5, g6, g7, g8, g9, g10, g11⟩ := hG
  subst he
  refine vx_catch (own := own) (name := E) g3 [] ⟨a, b, h, t⟩ (tableOf suf) hT (fun z hz => absurd hz (by simp)) ?_ h0 (g7.at hl _) (g7.at hc _) hce hcv hcl (kk q hc1 hs1 H locs ls hP hD hS hlv)
  unfold covers
  simp [hx.1, hx.2]
/-- by the second -/
theorem z_catch2 (hG : zOK G own cc nL) {hh suf : zHh} (hT : zTab G hh) {a1 b1 h1 t1 a b h t : Nat} (he : hh = (a1, b1, h1, t1) :: (a, b, h, t) :: suf) (hx : a ≤ pc ∧ pc < b) (h0 : t ≠ 0) (h01 : t1 ≠ 0) {E E1 : String} (hl1 : zWd (.classLink own t1 E1)) (hn : (E, E1) ∈ zNcs) (hl : zWd (.classLink own t E)) (hc : zWd (.castable E E)) (kk : ∀ q : Addr, zW G F cells slots I lv [.ref q] h) : zX G F cells slots I lv E pc := by
  obtain ⟨p, l, e, R, s, m, args, below, meth, c, Q, A, nn, D, cs⟩ := G
  intro hc1 hs1 H locs ls rest q ce hP hD hS hlv hce hcv hcl
  obtain ⟨g1, g2, g3, g4, g5, g6, g7, g8, g9, g10, g11⟩ := hG
  subst he
  refine vx_catch (own := own) (name := E) g3 [⟨a1, b1, h1, t1⟩] ⟨a, b, h, t⟩ (tableOf suf) hT (fun z hz => ?_) ?_ h0 (g7.at hl _) (g7.at hc _) hce hcv hcl (kk q hc1 hs1 H locs ls hP hD hS hlv)
  · cases List.mem_singleton.mp hz
    exact Or.inr ⟨h01, E1, g7.at hl1 _, g9.2 _ hn⟩
  · unfold covers
    simp [hx.1, hx.2]
abbrev zHeadH (y : MethodName) (cc : ByteArray) (maxL n : Nat) (ret : Option FieldType) (hh : zHh) : Prop := zWd (.codeWith y cc maxL ret hh) ∧ zWd (.initialized y.cls) ∧ y.cls ≠ "java/lang/invoke/MethodHandle" ∧ y.cls ≠ "java/lang/invoke/VarHandle" ∧ (parseMethodDescriptor y.desc).map (fun d => d.parameters.length) = some n
theorem z_callSH {index maxL n : Nat} {y : MethodName} {cy : ByteArray} {ret : Option FieldType} {hh : zHh} {rm rmG : Room} {post : Option Value → zStore → Prop} (As : List Value) (hG : zOK G own cc nL) (hRm : zRoom G rmG)
    (hM : ∀ (l : Launch) (D : va_G) (cs : Nat → ClassId), l.stackTraces = false → zMh l y cy maxL ret hh rm D cs F I As post) (hy : zHeadH y cy maxL n ret hh) (hl : zWd (.methodLink own index y)) (hi : zWd (.static y))
    (hf : rm.frames + 1 ≤ rmG.frames) (hlo : 8 + (maxL + 11) + rm.locals ≤ rmG.locals) (hce : cells + rm.cells ≤ rmG.cells) (hsl : slots + rm.slots ≤ rmG.slots) (hn : As.length = n) (hstk : stk = As.reverse ++ st) (hcat : (st.map fun v => v.category).sum ≤ 8) (hd : decode cc pc = .ok (.invokestatic index, 3))
    (kk : ∀ (r : Option Value) (I' : zStore), post r I' → zW G F (cells + rm.cells) (slots + rm.slots) I' lv (r.toList ++ st) (pc + 3)) : zW G F cells slots I lv stk pc := by
  obtain ⟨p, l, e, R, s, m, args, below, meth, c, Q, A, nn, D, cs⟩ := G
  intro hc hs H locs ls hP hD hS hl2
  have r1 := hRm.1
  have r2 := hRm.2.1
  have r3 := hRm.2.2.1
  have r4 := hRm.2.2.2
  have hG' := hG
  obtain ⟨g1, g2, g3, g4, g5, g6, g7, g8, g9, g10, g11⟩ := hG
  obtain ⟨y1, y2, y3, y4, y5⟩ := hy
  subst hstk
  have cw : vx_CSW R s args own index y cy maxL ret hh [.codeWith y cy maxL ret hh] rm rm.cells rm.slots n := by
    refine ⟨⟨rfl, rfl, by omega, by omega, fun w hw a' U hW => ?_, List.mem_cons_self⟩, g7.at y1 _, g7.at y2 _, ⟨y3, y4⟩, fun sig h => ?_, g7.at hl _, g7.at hi _⟩
    · cases List.mem_singleton.mp hw
      exact zst_warm y1.2 hW (g7.at y1 #[])
    · rw [h] at y5
      exact (Option.some.inj y5).symm
  refine z_back (D := D) (cs := cs) (F := F) (rest := st) (vx_runSW (As := As) (Ts := []) ⟨g1, g2, g4, g3, fun w (hw : w ∈ []) => (List.not_mem_nil hw).elim⟩ (hM l D cs g11 H.size) cw ⟨zPre_blind, fun U hU hW => ⟨rfl, zWo_in hG' hP hD hS hU hW⟩⟩ rfl hn hl2.1 rfl (lv_room hcat) hd ⟨by omega, by omega⟩) hS (zAd_in (G := (p, l, e, R, s, m, args, below, meth, c, Q, A, nn, D, cs)) hG' hD hS) (fun r u H1 locs1 hp hP1 hS1 => ?_)
  exact kk r u hp (by omega) (by omega) H1 locs1 ls hP1 (zD_of (zD_inj hD) (fun k hk => zD_in hD hk)) hS1 hl2
end ZMH
