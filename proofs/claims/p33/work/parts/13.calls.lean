/-! contracts over the store, their proofs and their calls -/
def zJn (F : zFr) : Prop := ∀ i j, i < F.2.1 → j < F.2.1 → F.1 i = F.1 j → i = j
def zWo (D : va_G) (cs : Nat → ClassId) (F : zFr) (A : Nat → Prop) (I : zStore) (U : State) : Prop := va_P D vwCl (zws cs F I) U.heap ∧ va_K D vwCl (ztys cs) U ∧ zJn F ∧ zTb U ∧ zOutH A U U.heap ∧ zOutV U
def zPre (D : va_G) (cs : Nat → ClassId) (F : zFr) (I : zStore) (sz : Nat) (av : List Value) : Array Value → State → Prop := va_Pc av (fun U => U.heap.size = sz ∧ zWo D cs F (zAd F sz) I U)
def zQ (D : va_G) (cs : Nat → ClassId) (F : zFr) (sz : Nat) (post : Option Value → zStore → Prop) : Array Value → State → Outcome → State → Prop := fun _ st oc t => (∃ (r : Option Value) (u : zStore), oc = .returned r ∧ post r u ∧ va_P D vwCl (zws cs F u) t.heap) ∧ va_F (zAd F sz) st t
def zXC (D : va_G) (cs : Nat → ClassId) (F : zFr) (sz : Nat) (px : String → zStore → Prop) : String → State → State → Prop := fun E st t => (∃ u : zStore, px E u ∧ va_P D vwCl (zws cs F u) t.heap) ∧ va_F (zAd F sz) st t
/-- a method that returns -/
def zMt (l : Launch) (y : MethodName) (cc : ByteArray) (maxL : Nat) (ret : Option FieldType) (rm : Room) (D : va_G) (cs : Nat → ClassId) (F : zFr) (I : zStore) (av : List Value) (post : Option Value → zStore → Prop) : Prop :=
  ∀ sz, Met l y [Cond.code y cc maxL ret] rm (zPre D cs F I sz av) (zQ D cs F sz post) rm.cells rm.slots (zAd F sz)
/-- a method that returns or throws -/
def zMx (l : Launch) (y : MethodName) (cc : ByteArray) (maxL : Nat) (ret : Option FieldType) (rm : Room) (D : va_G) (cs : Nat → ClassId) (F : zFr) (I : zStore) (av : List Value) (post : Option Value → zStore → Prop) (px : String → zStore → Prop) : Prop :=
  ∀ sz, vx_Met l y [Cond.code y cc maxL ret] rm (zPre D cs F I sz av) (zQ D cs F sz post) (zXC D cs F sz px) rm.cells rm.slots (zAd F sz)
def zRoom (G : zCx) (rm : Room) : Prop := match G with
  | (p, l, e, R, s, m, args, below, meth, c, Q, A, nn, D, cs) => rm.frames ≤ R.frames ∧ rm.locals ≤ R.locals ∧ rm.cells ≤ R.cells ∧ rm.slots ≤ R.slots
def zRetI (G : zCx) (F : zFr) (cc : ByteArray) (mc ms : Nat) (post : Option Value → zStore → Prop) : Prop := ∀ x I lv pc, decode cc pc = .ok (.ireturn, 1) → post (some (.int x)) I → zW G F mc ms I lv [.int x] pc
def zRetZ (G : zCx) (F : zFr) (cc : ByteArray) (mc ms : Nat) (post : Option Value → zStore → Prop) : Prop := ∀ x I lv pc, decode cc pc = .ok (.ireturn, 1) → (x = 0 ∨ x = 1) → post (some (.int (zI x))) I → zW G F mc ms I lv [.int (zI x)] pc
def zRetV (G : zCx) (F : zFr) (cc : ByteArray) (mc ms : Nat) (post : Option Value → zStore → Prop) : Prop := ∀ I lv pc, decode cc pc = .ok (.return_, 1) → post none I → zW G F mc ms I lv [] pc
def zRetL (G : zCx) (F : zFr) (cc : ByteArray) (mc ms : Nat) (post : Option Value → zStore → Prop) : Prop := ∀ x I lv pc, decode cc pc = .ok (.lreturn, 1) → post (some (.long x)) I → zW G F mc ms I lv [.long x] pc
theorem zPre_blind {D : va_G} {cs : Nat → ClassId} {F : zFr} {I : zStore} {sz : Nat} {av : List Value} : FrameBlind (zPre D cs F I sz av) := by
  intro a U g mk ⟨h1, h2, h3, h4, h5, h6, h7, h8⟩
  exact ⟨h1, h2, h3, va_K.moved (u := U) (U := U.calling g mk a) (Vm.Alike.refl U.vm) h4, h5, fun w hw hs => va_tabsA (h6 w hw hs) hs, h7.moved (u := U) (U := U.calling g mk a) (State.WarmedH.refl U), h8.warm (s := U) (U := U.calling g mk a) (State.WarmedH.refl U)⟩
section ZC
variable {G : zCx} {F : zFr} {cells slots : Nat} {I : zStore} {lv lv' : zLv} {st : List Value} {pc : Nat} {own : String} {cc : ByteArray} {nL : Nat}
theorem zBody {p : Program} {l : Launch} {e : Env} {s : State} {m : MethodId} {args : Array Value} {below : List Frame} {meth : Method} {c : Code} {s₁ : State} {y : MethodName} {maxL : Nat} {ret : Option FieldType} {rm : Room} {D : va_G} {cs : Nat → ClassId} {av : List Value} {sz : Nat} {ws : List Cond}
    (hst : l.stackTraces = false) (hlen : (lg_sl av).length ≤ maxL) (Q : State → Prop) (B : BodyLoose p l y (headSpec ws rm) cc maxL ret e s m args below meth c s₁) (hml : c.maxLocals = maxL) (hv : zPre D cs F I sz av args s)
    (k : ∀ G, G = (p, l, e, rm, s, m, args, below, meth, c, Q, zAd F sz, maxL, D, cs) → zOK G y.cls cc maxL → zRoom G rm → zW G F 0 0 I (lv_args 0 av) [] 0) :
    W p l e (headSpec ws rm).room s m args below meth c s.heap [] 0 0 Q (entryFrame m args maxL) := by
  obtain ⟨rfl, hsz, hP, hK, hJ, hT, hO, hV⟩ := hv
  subst hsz
  have hl := lv_entry av (n := maxL) hlen
  rw [lg_entry_eq]
  exact k _ rfl ⟨B.exec, B.bytes, findClass_of_methodNamed B.named, hml, rfl, hK, hT, hO, hV, fun q h => Or.inr h, hst⟩ ⟨Nat.le_refl _, Nat.le_refl _, Nat.le_refl _, Nat.le_refl _⟩ (Nat.zero_le _) (Nat.zero_le _) _ _ _ hP (zD_of hJ (fun k hk => Or.inl ⟨k, hk, rfl⟩)) va_S.rf hl
theorem zMt.ofI {l : Launch} {y : MethodName} {maxL : Nat} {rm : Room} {D : va_G} {cs : Nat → ClassId} {av : List Value} {post : Option Value → zStore → Prop} (hst : l.stackTraces = false) (hy : plainName y.cls = true) (hlen : (lg_sl av).length ≤ maxL)
    (k : ∀ G, zOK G y.cls cc maxL → zRoom G rm → zRetI G F cc rm.cells rm.slots post → zW G F 0 0 I (lv_args 0 av) [] 0) : zMt l y cc maxL (some .int) rm D cs F I av post := by
  intro sz
  refine Met.ofW (cc := cc) (maxL := maxL) (ret := some .int) hy rfl ?_
  intro p e s m args below meth c s₁ B hml hv
  refine zBody hst hlen _ B hml hv (fun G hG hok hrm => k G hok hrm ?_)
  subst hG
  intro x I1 lv1 pc1 hd hp hc hs H locs ls hP hD hS hl
  exact W.iret (v := x) B.exec B.bytes B.returns (fun t ht hW => ⟨⟨_, I1, rfl, hp, by rw [ht]; exact hP⟩, hS.F ht⟩) hS.2.2 hd B.notSynchronized
theorem zMt.ofZ {l : Launch} {y : MethodName} {maxL : Nat} {rm : Room} {D : va_G} {cs : Nat → ClassId} {av : List Value} {post : Option Value → zStore → Prop} (hst : l.stackTraces = false) (hy : plainName y.cls = true) (hlen : (lg_sl av).length ≤ maxL)
    (k : ∀ G, zOK G y.cls cc maxL → zRoom G rm → zRetZ G F cc rm.cells rm.slots post → zW G F 0 0 I (lv_args 0 av) [] 0) : zMt l y cc maxL (some .boolean) rm D cs F I av post := by
  intro sz
  refine Met.ofW (cc := cc) (maxL := maxL) (ret := some .boolean) hy rfl ?_
  intro p e s m args below meth c s₁ B hml hv
  refine zBody hst hlen _ B hml hv (fun G hG hok hrm => k G hok hrm ?_)
  subst hG
  intro x I1 lv1 pc1 hd hx hp hc hs H locs ls hP hD hS hl
  exact W.zret (v := zI x) B.exec B.bytes B.returns (by rcases hx with rfl | rfl <;> rfl) (fun t ht hW => ⟨⟨_, I1, rfl, hp, by rw [ht]; exact hP⟩, hS.F ht⟩) hS.2.2 hd B.notSynchronized
theorem zMt.ofV {l : Launch} {y : MethodName} {maxL : Nat} {rm : Room} {D : va_G} {cs : Nat → ClassId} {av : List Value} {post : Option Value → zStore → Prop} (hst : l.stackTraces = false) (hy : plainName y.cls = true) (hlen : (lg_sl av).length ≤ maxL)
    (k : ∀ G, zOK G y.cls cc maxL → zRoom G rm → zRetV G F cc rm.cells rm.slots post → zW G F 0 0 I (lv_args 0 av) [] 0) : zMt l y cc maxL none rm D cs F I av post := by
  intro sz
  refine Met.ofW (cc := cc) (maxL := maxL) (ret := none) hy rfl ?_
  intro p e s m args below meth c s₁ B hml hv
  refine zBody hst hlen _ B hml hv (fun G hG hok hrm => k G hok hrm ?_)
  subst hG
  intro I1 lv1 pc1 hd hp hc hs H locs ls hP hD hS hl
  exact W.vret B.exec B.bytes B.returns (fun t ht hW => ⟨⟨_, I1, rfl, hp, by rw [ht]; exact hP⟩, hS.F ht⟩) hS.2.2 hd B.notSynchronized
theorem zMt.ofL {l : Launch} {y : MethodName} {maxL : Nat} {rm : Room} {D : va_G} {cs : Nat → ClassId} {av : List Value} {post : Option Value → zStore → Prop} (hst : l.stackTraces = false) (hy : plainName y.cls = true) (hlen : (lg_sl av).length ≤ maxL)
    (k : ∀ G, zOK G y.cls cc maxL → zRoom G rm → zRetL G F cc rm.cells rm.slots post → zW G F 0 0 I (lv_args 0 av) [] 0) : zMt l y cc maxL (some .long) rm D cs F I av post := by
  intro sz
  refine Met.ofW (cc := cc) (maxL := maxL) (ret := some .long) hy rfl ?_
  intro p e s m args below meth c s₁ B hml hv
  refine zBody hst hlen _ B hml hv (fun G hG hok hrm => k G hok hrm ?_)
  subst hG
  intro x I1 lv1 pc1 hd hp hc hs H locs ls hP hD hS hl
  exact W.lret (v := x) B.exec B.bytes B.returns (fun t ht hW => ⟨⟨_, I1, rfl, hp, by rw [ht]; exact hP⟩, hS.F ht⟩) hS.2.2 hd B.notSynchronized
/-- a call that comes back -/
theorem z_back {p : Program} {l : Launch} {e : Env} {R : Room} {s : State} {m : MethodId} {args : Array Value} {below : List Frame} {meth : Method} {c : Code} {H : Heap} {locs : List Loc} {mc ms : Nat} {Q : State → Prop} {D : va_G} {cs : Nat → ClassId} {A0 : Nat → Prop} {H0 : Heap} {ls : Array Slot} {st0 rest : List Value} {post : Option Value → zStore → Prop} {a : Array Value}
    (hr : va_Run p l e R s m args below meth c H locs cells slots mc ms (F0 m pc ls st0) rest (zQ D cs F H.size post a) (zAd F H.size)) (hS : va_S A0 H0 H locs) (hA : ∀ q, zAd F H.size q → A0 q)
    (kk : ∀ (r : Option Value) (u : zStore) (H1 : Heap) (locs1 : List Loc), post r u → va_P D vwCl (zws cs F u) H1 → va_S A0 H0 H1 locs1 → W p l e R s m args below meth c H1 locs1 (cells + mc) (slots + ms) Q (F0 m (pc + 3) ls (r.toList ++ rest))) : W p l e R s m args below meth c H locs cells slots Q (F0 m pc ls st0) := by
  intro T hT X
  obtain ⟨v, st₀, t, T', L, h0, X', hL, e1, e2, ⟨⟨r, u, hv, hp, hb⟩, hF⟩, st⟩ := hr T hT X
  cases hv
  obtain ⟨k1, k2, k3⟩ := vx_keep h0 e1 hS (fun q _ h => hA q h) hA hL hF
  obtain ⟨t2, a1, b1⟩ := kk v u T'.heap (locs ++ L) hp (by rw [e1]; exact hb) k3 T' rfl X'
  exact ⟨t2, st t2 a1, b1⟩
theorem zRecv {s : State} {H : Heap} {D : va_G} {cs : Nat → ClassId} {b ci : Nat} {fs : List (Option (Option Nat))} {C : String} {T : u_T} {N : Nat} (hK : va_K D vwCl (ztys cs) s) (hP : va_P D vwCl (zws cs F I) H) (hc : vwCl[ci]? = some (C, T, N)) (hb : b < F.2.1) (hlay : F.2.2 b = .inl (ci, fs)) : ∃ cell : Cell, H[F.1 b]? = some cell ∧ cell.vm.isStatics = false ∧ s.vm.findClass C = some cell.cls :=
  va_recv hK hP hc (q0 := b) (zPt hb (zE_obj hlay))
theorem zAd_in {G : zCx} {p : Program} {l : Launch} {e : Env} {R : Room} {s : State} {m : MethodId} {args : Array Value} {below : List Frame} {meth : Method} {c : Code} {Q : State → Prop} {A : Nat → Prop} {nn : Nat} {D : va_G} {cs : Nat → ClassId} {H : Heap} {locs : List Loc} (hG : zOK (p, l, e, R, s, m, args, below, meth, c, Q, A, nn, D, cs) own cc nL) (hD : va_D A (zws cs F I)) (hS : va_S A s.heap H locs) : ∀ q, zAd F H.size q → A q := by
  intro q h
  obtain ⟨g1, g2, g3, g4, g5, g6, g7, g8, g9, g10, g11⟩ := hG
  rcases h with ⟨k, hk, rfl⟩ | h
  · exact zD_in hD hk
  · exact g10 q (Nat.le_trans hS.1 h)
theorem zWo_in {p : Program} {l : Launch} {e : Env} {R : Room} {s : State} {m : MethodId} {args : Array Value} {below : List Frame} {meth : Method} {c : Code} {Q : State → Prop} {A : Nat → Prop} {nn : Nat} {D : va_G} {cs : Nat → ClassId} {H : Heap} {locs : List Loc} {U : State} (hG : zOK (p, l, e, R, s, m, args, below, meth, c, Q, A, nn, D, cs) own cc nL) (hP : va_P D vwCl (zws cs F I) H) (hD : va_D A (zws cs F I)) (hS : va_S A s.heap H locs) (hU : U.heap = H) (hW : s.WarmedH U.vm) : U.heap.size = H.size ∧ zWo D cs F (zAd F H.size) I U := by
  have hA := zAd_in (G := (p, l, e, R, s, m, args, below, meth, c, Q, A, nn, D, cs)) hG hD hS
  obtain ⟨g1, g2, g3, g4, g5, g6, g7, g8, g9, g10, g11⟩ := hG
  refine ⟨by rw [hU], by rw [hU]; exact hP, va_K.moved hW.alike g6, zD_inj hD, g7.warm hW, ?_, g9.warm hW⟩
  rw [hU]
  exact ((g8.kept hS.2.1).moved hW).narrow hA
abbrev zHead (y : MethodName) (cc : ByteArray) (maxL n : Nat) (ret : Option FieldType) : Prop := zWd (.code y cc maxL ret) ∧ zWd (.initialized y.cls) ∧ y.cls ≠ "java/lang/invoke/MethodHandle" ∧ y.cls ≠ "java/lang/invoke/VarHandle" ∧ (parseMethodDescriptor y.desc).map (fun d => d.parameters.length) = some n
theorem zCallB {p : Program} {l : Launch} {e : Env} {R : Room} {s : State} {m : MethodId} {args : Array Value} {below : List Frame} {meth : Method} {c : Code} {Q : State → Prop} {A : Nat → Prop} {nn : Nat} {D : va_G} {cs : Nat → ClassId} {index maxL n : Nat} {y : MethodName} {cy : ByteArray} {ret : Option FieldType} {rm : Room} (hG : zOK (p, l, e, R, s, m, args, below, meth, c, Q, A, nn, D, cs) own cc nL) (hy : zHead y cy maxL n ret) (hl : zWd (.methodLink own index y)) (hR : rm.frames + 1 ≤ R.frames ∧ 8 + (maxL + 11) + rm.locals ≤ R.locals) : CallB R s args own index y cy maxL ret [.code y cy maxL ret] rm rm.cells rm.slots n := by
  obtain ⟨g1, g2, g3, g4, g5, g6, g7, g8, g9, g10, g11⟩ := hG
  obtain ⟨y1, y2, y3, y4, y5⟩ := hy
  refine ⟨rfl, rfl, hR.1, hR.2, fun w hw a' U hW => ?_, List.mem_cons_self, g7.at y1 _, g7.at y2 _, ⟨y3, y4⟩, fun sig h => ?_, g7.at hl _⟩
  · cases List.mem_singleton.mp hw
    exact zst_warm y1.2 hW (g7.at y1 #[])
  · rw [h] at y5
    exact (Option.some.inj y5).symm
theorem zRm_of {G : zCx} {rm rm' : Room} {maxL : Nat} (h : zRoom G rm') (hf : rm.frames + 1 ≤ rm'.frames) (hl : 8 + (maxL + 11) + rm.locals ≤ rm'.locals) : match G with
  | (p, l, e, R, s, m, args, below, meth, c, Q, A, nn, D, cs) => rm.frames + 1 ≤ R.frames ∧ 8 + (maxL + 11) + rm.locals ≤ R.locals := by
  obtain ⟨p, l, e, R, s, m, args, below, meth, c, Q, A, nn, D, cs⟩ := G
  exact ⟨Nat.le_trans hf h.1, Nat.le_trans hl h.2.1⟩
end ZC
