/-! contracts of the JDK's methods and their calls -/
def yPre (D : va_G) (cB : ClassId) (ws : va_W) (os : List oSt) (sz : Nat) (av : List Value) : Array Value → State → Prop := va_Pc av (fun U => U.heap.size = sz ∧ va_P D jCl ws U.heap ∧ va_K D jCl [(cB, .byte)] U ∧ va_D (va_A ws sz) ws ∧ zTb U ∧ oOut os (va_A ws sz) U U.heap)
def yQ (D : va_G) (ws : va_W) (sz : Nat) (post : Option Value → va_W → Prop) : Array Value → State → Outcome → State → Prop := fun _ st oc t => (∃ (r : Option Value) (w : va_W), oc = .returned r ∧ post r w ∧ va_P D jCl w t.heap ∧ va_D (va_A ws sz) w) ∧ va_F (va_A ws sz) st t
def yMt (l : Launch) (y : MethodName) (cc : ByteArray) (maxL : Nat) (ret : Option FieldType) (rm : Room) (D : va_G) (cB : ClassId) (ws : va_W) (os : List oSt) (av : List Value) (post : Option Value → va_W → Prop) : Prop :=
  ∀ sz, Met l y [Cond.code y cc maxL ret] rm (yPre D cB ws os sz av) (yQ D ws sz post) rm.cells rm.slots (va_A ws sz)
theorem yPre_blind {D : va_G} {cB : ClassId} {ws : va_W} {os : List oSt} {sz : Nat} {av : List Value} : FrameBlind (yPre D cB ws os sz av) := by
  intro a U g mk ⟨h1, h2, h3, h4, h5, h6, h7⟩
  exact ⟨h1, h2, h3, va_K.moved (u := U) (U := U.calling g mk a) (Vm.Alike.refl U.vm) h4, h5, fun w hw hs => va_tabsA (h6 w hw hs) hs, h7.moved (u := U) (U := U.calling g mk a) (Vm.Alike.refl U.vm)⟩
def yRetI (G : yCx) (cc : ByteArray) (mc ms : Nat) (post : Option Value → va_W → Prop) : Prop := ∀ x w lv pc, decode cc pc = .ok (.ireturn, 1) → post (some (.int x)) w → yW G w mc ms lv [.int x] pc
def yRetN (ty : FieldType) (G : yCx) (cc : ByteArray) (mc ms : Nat) (post : Option Value → va_W → Prop) : Prop := ∀ x w lv pc, decode cc pc = .ok (.ireturn, 1) → narrow ty (.int x) = .int x → post (some (.int x)) w → yW G w mc ms lv [.int x] pc
def yRetV (G : yCx) (cc : ByteArray) (mc ms : Nat) (post : Option Value → va_W → Prop) : Prop := ∀ w lv pc, decode cc pc = .ok (.return_, 1) → post none w → yW G w mc ms lv [] pc
def yRetA (G : yCx) (cc : ByteArray) (mc ms : Nat) (post : Option Value → va_W → Prop) : Prop := ∀ a w lv pc, decode cc pc = .ok (.areturn, 1) → post (some (.ref a)) w → yW G w mc ms lv [.ref a] pc
theorem yBody {p : Program} {l : Launch} {e : Env} {s : State} {m : MethodId} {args : Array Value} {below : List Frame} {meth : Method} {c : Code} {s₁ : State} {y : MethodName} {cc : ByteArray} {maxL : Nat} {ret : Option FieldType} {rm : Room} {D : va_G} {cB : ClassId} {w : va_W} {os : List oSt} {av : List Value} {sz : Nat} {ws : List Cond}
    (hlen : (lg_sl av).length ≤ maxL) (Q : State → Prop) (B : BodyLoose p l y (headSpec ws rm) cc maxL ret e s m args below meth c s₁) (hml : c.maxLocals = maxL) (hv : yPre D cB w os sz av args s)
    (k : ∀ G, G = (p, l, e, rm, s, m, args, below, meth, c, Q, va_A w sz, maxL, D, cB, os) → yOK G y.cls cc maxL → yRoom G rm → yNm G y.name → yCb G cB os → yW G w 0 0 (lv_args 0 av) [] 0) :
    W p l e (headSpec ws rm).room s m args below meth c s.heap [] 0 0 Q (entryFrame m args maxL) := by
  obtain ⟨rfl, hsz, hP, hK, hJ, hT, hO⟩ := hv
  subst hsz
  have hl := lv_entry av (n := maxL) hlen
  rw [lg_entry_eq]
  exact k _ rfl ⟨B.exec, B.bytes, findClass_of_methodNamed B.named, hml, rfl, hK, hT, hO, fun q h => Or.inr h⟩ ⟨Nat.le_refl _, Nat.le_refl _, Nat.le_refl _, Nat.le_refl _⟩ (name_of_methodNamed B.named B.method).1 ⟨rfl, rfl⟩ (Nat.zero_le _) (Nat.zero_le _) _ _ _ hP hJ va_S.rf hl
section YM
variable {l : Launch} {y : MethodName} {cc : ByteArray} {maxL : Nat} {rm : Room} {D : va_G} {cB : ClassId} {w : va_W} {os : List oSt} {av : List Value} {post : Option Value → va_W → Prop}
theorem yMt.ofI (hy : plainFor y = true) (hlen : (lg_sl av).length ≤ maxL)
    (k : ∀ G, yOK G y.cls cc maxL → yRoom G rm → yNm G y.name → yCb G cB os → yRetI G cc rm.cells rm.slots post → yW G w 0 0 (lv_args 0 av) [] 0) : yMt l y cc maxL (some .int) rm D cB w os av post := by
  intro sz
  refine va_MetF (cc := cc) (maxL := maxL) (ret := some .int) hy rfl ?_
  intro p e s m args below meth c s₁ B hml hv
  refine yBody hlen _ B hml hv (fun G hG hok hrm hnm hcb => k G hok hrm hnm hcb ?_)
  subst hG
  intro x w1 lv1 pc1 hd hp hc hs H locs ls hP hD hS hl
  exact W.iret (v := x) B.exec B.bytes B.returns (fun t ht hW => ⟨⟨_, w1, rfl, hp, by rw [ht]; exact hP, hD⟩, hS.F ht⟩) hS.2.2 hd B.notSynchronized
theorem yMt.ofN {ty : FieldType} (hy : plainFor y = true) (hlen : (lg_sl av).length ≤ maxL)
    (k : ∀ G, yOK G y.cls cc maxL → yRoom G rm → yNm G y.name → yCb G cB os → yRetN ty G cc rm.cells rm.slots post → yW G w 0 0 (lv_args 0 av) [] 0) : yMt l y cc maxL (some ty) rm D cB w os av post := by
  intro sz
  refine va_MetF (cc := cc) (maxL := maxL) (ret := some ty) hy rfl ?_
  intro p e s m args below meth c s₁ B hml hv
  refine yBody hlen _ B hml hv (fun G hG hok hrm hnm hcb => k G hok hrm hnm hcb ?_)
  subst hG
  intro x w1 lv1 pc1 hd hn hp hc hs H locs ls hP hD hS hl
  exact W.zret (v := x) B.exec B.bytes B.returns hn (fun t ht hW => ⟨⟨_, w1, rfl, hp, by rw [ht]; exact hP, hD⟩, hS.F ht⟩) hS.2.2 hd B.notSynchronized
theorem yMt.ofV (hy : plainFor y = true) (hlen : (lg_sl av).length ≤ maxL)
    (k : ∀ G, yOK G y.cls cc maxL → yRoom G rm → yNm G y.name → yCb G cB os → yRetV G cc rm.cells rm.slots post → yW G w 0 0 (lv_args 0 av) [] 0) : yMt l y cc maxL none rm D cB w os av post := by
  intro sz
  refine va_MetF (cc := cc) (maxL := maxL) (ret := none) hy rfl ?_
  intro p e s m args below meth c s₁ B hml hv
  refine yBody hlen _ B hml hv (fun G hG hok hrm hnm hcb => k G hok hrm hnm hcb ?_)
  subst hG
  intro w1 lv1 pc1 hd hp hc hs H locs ls hP hD hS hl
  exact W.vret B.exec B.bytes B.returns (fun t ht hW => ⟨⟨_, w1, rfl, hp, by rw [ht]; exact hP, hD⟩, hS.F ht⟩) hS.2.2 hd B.notSynchronized
theorem yMt.ofA {rt : FieldType} (hrt : (∃ n, rt = .object n) ∨ ∃ t, rt = .array t) (hy : plainFor y = true) (hlen : (lg_sl av).length ≤ maxL)
    (k : ∀ G, yOK G y.cls cc maxL → yRoom G rm → yNm G y.name → yCb G cB os → yRetA G cc rm.cells rm.slots post → yW G w 0 0 (lv_args 0 av) [] 0) : yMt l y cc maxL (some rt) rm D cB w os av post := by
  intro sz
  refine va_MetF (cc := cc) (maxL := maxL) (ret := some rt) hy rfl ?_
  intro p e s m args below meth c s₁ B hml hv
  refine yBody hlen _ B hml hv (fun G hG hok hrm hnm hcb => k G hok hrm hnm hcb ?_)
  subst hG
  intro x w1 lv1 pc1 hd hp hc hs H locs ls hP hD hS hl
  exact W.aret (v := .ref x) B.exec B.bytes B.returns hrt (Or.inr ⟨x, rfl⟩) (fun t ht hW => ⟨⟨_, w1, rfl, hp, by rw [ht]; exact hP, hD⟩, hS.F ht⟩) hS.2.2 hd B.notSynchronized
end YM
/-- a call that comes back -/
theorem y_back {p : Program} {l : Launch} {e : Env} {R : Room} {s : State} {m : MethodId} {args : Array Value} {below : List Frame} {meth : Method} {c : Code} {H : Heap} {locs : List Loc} {cells slots mc ms pc : Nat} {Q : State → Prop} {D : va_G} {ws : va_W} {A0 : Nat → Prop} {H0 : Heap} {ls : Array Slot} {st0 rest : List Value} {post : Option Value → va_W → Prop} {a : Array Value}
    (hr : va_Run p l e R s m args below meth c H locs cells slots mc ms (F0 m pc ls st0) rest (yQ D ws H.size post a) (va_A ws H.size)) (hS : va_S A0 H0 H locs) (hA : ∀ q, va_A ws H.size q → A0 q)
    (kk : ∀ (r : Option Value) (w : va_W) (H1 : Heap) (locs1 : List Loc), post r w → va_P D jCl w H1 → va_D A0 w → va_S A0 H0 H1 locs1 → (H.size ≤ H1.size ∧ ∀ q : Nat, q < H.size → ¬ va_A ws H.size q → H1[q]? = H[q]?) → W p l e R s m args below meth c H1 locs1 (cells + mc) (slots + ms) Q (F0 m (pc + 3) ls (r.toList ++ rest))) : W p l e R s m args below meth c H locs cells slots Q (F0 m pc ls st0) := by
  intro T hT X
  obtain ⟨v, st₀, t, T', L, h0, X', hL, e1, e2, ⟨⟨r, w, hv, hp, hb, hd⟩, hF⟩, st⟩ := hr T hT X
  cases hv
  obtain ⟨k1, k2, k3⟩ := vx_keep h0 e1 hS (fun q _ h => hA q h) hA hL hF
  obtain ⟨t2, a1, b1⟩ := kk v w T'.heap (locs ++ L) hp (by rw [e1]; exact hb) (hd.weaken fun k q _ h => hA q.1 h) k3 ⟨k1, k2⟩ T' rfl X'
  exact ⟨t2, st t2 a1, b1⟩
section YC
variable {G : yCx} {ws : va_W} {cells slots : Nat} {lv lv' : zLv} {st stk : List Value} {pc : Nat} {own : String} {cc : ByteArray} {nL : Nat}
theorem yAd_in {p : Program} {l : Launch} {e : Env} {R : Room} {s : State} {m : MethodId} {args : Array Value} {below : List Frame} {meth : Method} {c : Code} {Q : State → Prop} {A : Nat → Prop} {nn : Nat} {D : va_G} {cB : ClassId} {os : List oSt} {H : Heap} {locs : List Loc} (hG : yOK (p, l, e, R, s, m, args, below, meth, c, Q, A, nn, D, cB, os) own cc nL) (hD : va_D A ws) (hS : va_S A s.heap H locs) : ∀ q, va_A ws H.size q → A q := by
  intro q h
  obtain ⟨g1, g2, g3, g4, g5, g6, g7, g8, g9⟩ := hG
  rcases h with ⟨k, e, hk⟩ | h
  · exact hD.2 k _ hk
  · exact g9 q (Nat.le_trans hS.1 h)
theorem yWo_in {p : Program} {l : Launch} {e : Env} {R : Room} {s : State} {m : MethodId} {args : Array Value} {below : List Frame} {meth : Method} {c : Code} {Q : State → Prop} {A : Nat → Prop} {nn : Nat} {D : va_G} {cB : ClassId} {os : List oSt} {H : Heap} {locs : List Loc} {U : State} (hG : yOK (p, l, e, R, s, m, args, below, meth, c, Q, A, nn, D, cB, os) own cc nL) (hP : va_P D jCl ws H) (hD : va_D A ws) (hS : va_S A s.heap H locs) (hU : U.heap = H) (hW : s.WarmedH U.vm) : U.heap.size = H.size ∧ va_P D jCl ws U.heap ∧ va_K D jCl [(cB, .byte)] U ∧ va_D (va_A ws H.size) ws ∧ zTb U ∧ oOut os (va_A ws H.size) U U.heap := by
  have hA := yAd_in hG hD hS
  obtain ⟨g1, g2, g3, g4, g5, g6, g7, g8, g9⟩ := hG
  refine ⟨by rw [hU], by rw [hU]; exact hP, va_K.moved hW.alike g6, hD.self, g7.warm hW, ?_⟩
  rw [hU]
  exact ((g8.kept hS.2.1).moved hW.alike).narrow hA
theorem yCallB {p : Program} {l : Launch} {e : Env} {R : Room} {s : State} {m : MethodId} {args : Array Value} {below : List Frame} {meth : Method} {c : Code} {Q : State → Prop} {A : Nat → Prop} {nn : Nat} {D : va_G} {cB : ClassId} {os : List oSt} {index maxL n : Nat} {y : MethodName} {cy : ByteArray} {ret : Option FieldType} {rm : Room} (hG : yOK (p, l, e, R, s, m, args, below, meth, c, Q, A, nn, D, cB, os) own cc nL) (hy : zHead y cy maxL n ret) (hl : zWd (.methodLink own index y)) (hR : rm.frames + 1 ≤ R.frames ∧ 8 + (maxL + 11) + rm.locals ≤ R.locals) : CallB R s args own index y cy maxL ret [.code y cy maxL ret] rm rm.cells rm.slots n := by
  obtain ⟨g1, g2, g3, g4, g5, g6, g7, g8, g9⟩ := hG
  obtain ⟨y1, y2, y3, y4, y5⟩ := hy
  refine ⟨rfl, rfl, hR.1, hR.2, fun w hw a' U hW => ?_, List.mem_cons_self, g7.at y1 _, g7.at y2 _, ⟨y3, y4⟩, fun sig h => ?_, g7.at hl _⟩
  · cases List.mem_singleton.mp hw
    exact zst_warm y1.2 hW (g7.at y1 #[])
  · rw [h] at y5
    exact (Option.some.inj y5).symm
/-- invokevirtual on a String outside -/
theorem y_callVS {index maxL n b va : Nat} {bs : List Nat} {y : MethodName} {cy : ByteArray} {ret : Option FieldType} {rm rmG : Room} {cB : ClassId} {os : List oSt} {post : Option Value → va_W → Prop} (As : List Value) (hG : yOK G own cc nL) (hC : yCb G cB os) (hRm : yRoom G rmG) (ho : (b, va, bs) ∈ os)
    (hM : ∀ (l : Launch) (D : va_G), yMt l y cy maxL ret rm D cB ws os (.ref b :: As) post) (hy : zHead y cy maxL n ret) (hl : zWd (.methodLink own index y)) (hi : zWd (.instanceMethod y)) (hse : zWd (.selects "java/lang/String" y y))
    (hf : rm.frames + 1 ≤ rmG.frames) (hlo : 8 + (maxL + 11) + rm.locals ≤ rmG.locals) (hce : cells + rm.cells ≤ rmG.cells) (hsl : slots + rm.slots ≤ rmG.slots) (hn : As.length = n) (hstk : stk = As.reverse ++ .ref b :: st) (hcat : (st.map fun v => v.category).sum ≤ 8) (hd : decode cc pc = .ok (.invokevirtual index, 3))
    (kk : ∀ (r : Option Value) (w : va_W), post r w → yW G w (cells + rm.cells) (slots + rm.slots) lv (r.toList ++ st) (pc + 3)) : yW G ws cells slots lv stk pc := by
  obtain ⟨p, l, e, R, s, m, args, below, meth, c, Q, A, nn, D, cB', os'⟩ := G
  intro hc hs H locs ls hP hD hS hl2
  obtain ⟨hC1, hC2⟩ := hC
  subst hC1
  subst hC2
  have r1 := hRm.1
  have r2 := hRm.2.1
  have r3 := hRm.2.2.1
  have r4 := hRm.2.2.2
  have hG' := hG
  obtain ⟨g1, g2, g3, g4, g5, g6, g7, g8, g9⟩ := hG
  subst hstk
  refine y_back (D := D) (ws := ws) (rest := st) (va_runV (As := As) ⟨g1, g2, g4, g3, fun w (hw : w ∈ []) => (List.not_mem_nil hw).elim⟩ (hM l D H.size) ⟨yCallB hG' hy hl ⟨by omega, by omega⟩, g7.at hi _, g7.at hse _⟩ ⟨yPre_blind, va_Orecv (g8.2.2 _ ho).1 hS, fun U hU hW => ⟨rfl, yWo_in hG' hP hD hS hU hW⟩⟩ rfl hn hl2.1 rfl (lv_room hcat) hd ⟨by omega, by omega⟩) hS (yAd_in hG' hD hS) (fun r w H1 locs1 hp hP1 hD1 hS1 _ => ?_)
  exact kk r w hp (by omega) (by omega) H1 locs1 ls hP1 hD1 hS1 hl2
/-- invokevirtual on the world's object q0 of class C, where the receiver's class selects y for x -/
def ySel (C : String) (x y : MethodName) : Prop := ∀ s : State, zTb s → (Cond.selects C x y).before #[] s = true
theorem ySel.w {C : String} {x y : MethodName} (h : zWd (.selects C x y)) : ySel C x y := fun s hs => hs.at h _
theorem ySel.p {C : String} {x : MethodName} {n : Nat} (hC : zWd (.instantiable C n)) (hy : x.cls ≠ "java/lang/invoke/MethodHandle" ∧ x.cls ≠ "java/lang/invoke/VarHandle") (hp : zWd (.privateMethod x)) (hi : zWd (.instanceMethod x)) (hsm : zWd (.sameMethod x.cls x.cls x.name x.desc)) : ySel C x x := by
  intro s hs
  obtain ⟨c, k, hc, hk, -, hniab, -, -⟩ := Cond.instantiable_spec (hs.at hC #[])
  obtain ⟨mk, methM, hnamed, hmethM, -, -⟩ := Cond.instanceMethod_spec (hs.at hi #[])
  have hfound : s.methodFound? x.cls x.name x.desc = some mk := State.methodFound?_of_named hnamed hy
  have hsel : selectMethod {} s.vm c mk = .method mk := selectMethod_private hmethM (Cond.privateMethod_at (hs.at hp #[]) mk methM hnamed hmethM)
  have hfc : s.vm.findClass x.cls = some mk.cls := findClass_of_methodNamed hnamed
  have h9 := hs.at hsm #[]
  simp only [Cond.before, Cond.holds, Cond.value, hfc, hfound, hnamed] at h9 ⊢
  simp only [hc, hsel]
  simpa using h9
theorem y_callU {index maxL n b ci q0 N : Nat} {C owner : String} {T : u_T} {fs : List Value} {x y : MethodName} {cy : ByteArray} {ret : Option FieldType} {rm rmG : Room} {cB : ClassId} {os : List oSt} {post : Option Value → va_W → Prop} (As : List Value) (hG : yOK G own cc nL) (hC : yCb G cB os) (hRm : yRoom G rmG)
    (hM : ∀ (l : Launch) (D : va_G), yMt l y cy maxL ret rm D cB ws os (.ref b :: As) post) (hy : zHead y cy maxL n ret) (hl : zWd (.methodLink own index x)) (hxd : (parseMethodDescriptor x.desc).map (fun d => d.parameters.length) = some n) (hsm : zWd (.sameMethod x.cls owner x.name x.desc)) (hmh : owner ≠ "java/lang/invoke/MethodHandle" ∧ owner ≠ "java/lang/invoke/VarHandle") (hdi : zWd (.instanceMethod ⟨owner, x.name, x.desc⟩)) {bx : ByteArray} {mx : Nat} {rx : Option FieldType} (hdc : zWd (.code ⟨owner, x.name, x.desc⟩ bx mx rx)) (hse : ySel C x y) (hi : zWd (.instanceMethod y)) (hc0 : jCl[ci]? = some (C, T, N)) (he : ws[q0]? = some (b, .inr (ci, fs)))
    (hf : rm.frames + 1 ≤ rmG.frames) (hlo : 8 + (maxL + 11) + rm.locals ≤ rmG.locals) (hce : cells + rm.cells ≤ rmG.cells) (hsl : slots + rm.slots ≤ rmG.slots) (hn : As.length = n) (hstk : stk = As.reverse ++ .ref b :: st) (hcat : (st.map fun v => v.category).sum ≤ 8) (hd : decode cc pc = .ok (.invokevirtual index, 3))
    (kk : ∀ (r : Option Value) (w : va_W), post r w → yW G w (cells + rm.cells) (slots + rm.slots) lv (r.toList ++ st) (pc + 3)) : yW G ws cells slots lv stk pc := by
  obtain ⟨p, l, e, R, s, m, args, below, meth, c, Q, A, nn, D, cB', os'⟩ := G
  intro hc hs H locs ls hP hD hS hl2
  obtain ⟨hC1, hC2⟩ := hC
  subst hC1
  subst hC2
  have r1 := hRm.1
  have r2 := hRm.2.1
  have r3 := hRm.2.2.1
  have r4 := hRm.2.2.2
  have hG' := hG
  obtain ⟨g1, g2, g3, g4, g5, g6, g7, g8, g9⟩ := hG
  subst hstk
  have hse2 : (Cond.selects C x y).before args s = true := va_tabs rfl rfl (hse s g7)
  have hsig : ∀ sig, parseMethodDescriptor x.desc = some sig → n = sig.parameters.length := fun sig h => by
    rw [h] at hxd
    exact (Option.some.inj hxd).symm
  have cw : va_CU R s args own C owner index x y cy maxL ret [.code y cy maxL ret] rm rm.cells rm.slots n := ⟨⟨rfl, rfl, by omega, by omega, fun w hw a' U hW => by
      cases List.mem_singleton.mp hw
      exact zst_warm hy.1.2 hW (g7.at hy.1 #[]), List.mem_cons_self⟩, g7.at hy.1 _, g7.at hy.2.1 _, hmh, hsig, g7.at hl _, g7.at hsm _, va_Decl.of (g7.at hdi args) (g7.at hdc args), hse2, g7.at hi _⟩
  refine y_back (D := D) (ws := ws) (rest := st) (va_runU (As := As) ⟨g1, g2, g4, g3, fun w (hw : w ∈ []) => (List.not_mem_nil hw).elim⟩ (hM l D H.size) cw ⟨yPre_blind, va_recv g6 hP hc0 he, fun U hU hW => ⟨rfl, yWo_in hG' hP hD hS hU hW⟩⟩ rfl hn hl2.1 rfl (lv_room hcat) hd ⟨by omega, by omega⟩) hS (yAd_in hG' hD hS) (fun r w H1 locs1 hp hP1 hD1 hS1 _ => ?_)
  exact kk r w hp (by omega) (by omega) H1 locs1 ls hP1 hD1 hS1 hl2
/-- super.y(..), on the world's object q0 -/
theorem y_callSU {index maxL n b ci q0 N : Nat} {C : String} {T : u_T} {fs : List Value} {y : MethodName} {cy : ByteArray} {ret : Option FieldType} {rm rmG : Room} {cB : ClassId} {os : List oSt} {post : Option Value → va_W → Prop} (As : List Value) (hG : yOK G own cc nL) (hC : yCb G cB os) (hRm : yRoom G rmG)
    (hM : ∀ (l : Launch) (D : va_G), yMt l y cy maxL ret rm D cB ws os (.ref b :: As) post) (hy : zHead y cy maxL n ret) (hno : y.name ≠ "<init>") (hl : zWd (.methodLink own index y)) (hsm : zWd (.sameMethod y.cls y.cls y.name y.desc)) (hsu : zWd (.superclass own y.cls)) (hi : zWd (.instanceMethod y)) (hc0 : jCl[ci]? = some (C, T, N)) (he : ws[q0]? = some (b, .inr (ci, fs)))
    (hf : rm.frames + 1 ≤ rmG.frames) (hlo : 8 + (maxL + 11) + rm.locals ≤ rmG.locals) (hce : cells + rm.cells ≤ rmG.cells) (hsl : slots + rm.slots ≤ rmG.slots) (hn : As.length = n) (hstk : stk = As.reverse ++ .ref b :: st) (hcat : (st.map fun v => v.category).sum ≤ 8) (hd : decode cc pc = .ok (.invokespecial index, 3))
    (kk : ∀ (r : Option Value) (w : va_W), post r w → yW G w (cells + rm.cells) (slots + rm.slots) lv (r.toList ++ st) (pc + 3)) : yW G ws cells slots lv stk pc := by
  obtain ⟨p, l, e, R, s, m, args, below, meth, c, Q, A, nn, D, cB', os'⟩ := G
  intro hc hs H locs ls hP hD hS hl2
  obtain ⟨hC1, hC2⟩ := hC
  subst hC1
  subst hC2
  have r1 := hRm.1
  have r2 := hRm.2.1
  have r3 := hRm.2.2.1
  have r4 := hRm.2.2.2
  have hG' := hG
  obtain ⟨g1, g2, g3, g4, g5, g6, g7, g8, g9⟩ := hG
  subst hstk
  obtain ⟨-, hfc, kC, hkC, hkind⟩ := g6.1 ci _ hc0
  have hsig : ∀ sig, parseMethodDescriptor y.desc = some sig → n = sig.parameters.length := fun sig h => by
    have := hy.2.2.2.2
    rw [h] at this
    exact (Option.some.inj this).symm
  have cw : va_CS R s args own index y cy maxL ret [.code y cy maxL ret] rm rm.cells rm.slots n := ⟨⟨rfl, rfl, by omega, by omega, fun w hw a' U hW => by
      cases List.mem_singleton.mp hw
      exact zst_warm hy.1.2 hW (g7.at hy.1 #[]), List.mem_cons_self⟩, g7.at hl _, g7.at hsm _, g7.at hsu _, g7.at hi _, g7.at hy.2.1 _, g7.at hy.1 _, hno, hsig⟩
  refine y_back (D := D) (ws := ws) (rest := st) (va_runSU (As := As) (C := C) ⟨hfc, kC, hkC, hkind⟩ ⟨g1, g2, g4, g3, fun w (hw : w ∈ []) => (List.not_mem_nil hw).elim⟩ (hM l D H.size) cw ⟨yPre_blind, va_recv g6 hP hc0 he, fun U hU hW => ⟨rfl, yWo_in hG' hP hD hS hU hW⟩⟩ rfl hn hl2.1 rfl (lv_room hcat) hd ⟨by omega, by omega⟩) hS (yAd_in hG' hD hS) (fun r w H1 locs1 hp hP1 hD1 hS1 _ => ?_)
  exact kk r w hp (by omega) (by omega) H1 locs1 ls hP1 hD1 hS1 hl2
/-- a constructor -/
theorem y_callI {index maxL n b : Nat} {y : MethodName} {cy : ByteArray} {rm rmG : Room} {cB : ClassId} {os : List oSt} {post : Option Value → va_W → Prop} (As : List Value) (hG : yOK G own cc nL) (hC : yCb G cB os) (hRm : yRoom G rmG)
    (hM : ∀ (l : Launch) (D : va_G), yMt l y cy maxL none rm D cB ws os (.ref b :: As) post) (hy : zHead y cy maxL n none) (hyn : y.name = "<init>") (hl : zWd (.methodLink own index y)) (hi : zWd (.instanceMethod y))
    (hf : rm.frames + 1 ≤ rmG.frames) (hlo : 8 + (maxL + 11) + rm.locals ≤ rmG.locals) (hce : cells + rm.cells ≤ rmG.cells) (hsl : slots + rm.slots ≤ rmG.slots) (hn : As.length = n) (hstk : stk = As.reverse ++ .ref b :: st) (hcat : (st.map fun v => v.category).sum ≤ 8) (hd : decode cc pc = .ok (.invokespecial index, 3))
    (kk : ∀ (r : Option Value) (w : va_W), post r w → yW G w (cells + rm.cells) (slots + rm.slots) lv (r.toList ++ st) (pc + 3)) : yW G ws cells slots lv stk pc := by
  obtain ⟨p, l, e, R, s, m, args, below, meth, c, Q, A, nn, D, cB', os'⟩ := G
  intro hc hs H locs ls hP hD hS hl2
  obtain ⟨hC1, hC2⟩ := hC
  subst hC1
  subst hC2
  have r1 := hRm.1
  have r2 := hRm.2.1
  have r3 := hRm.2.2.1
  have r4 := hRm.2.2.2
  have hG' := hG
  obtain ⟨g1, g2, g3, g4, g5, g6, g7, g8, g9⟩ := hG
  subst hstk
  refine y_back (D := D) (ws := ws) (rest := st) (va_runI (As := As) (Ts := []) ⟨g1, g2, g4, g3, fun w (hw : w ∈ []) => (List.not_mem_nil hw).elim⟩ (hM l D H.size) ⟨yCallB hG' hy hl ⟨by omega, by omega⟩, hyn, g7.at hi _⟩ ⟨yPre_blind, fun U hU hW => ⟨rfl, yWo_in hG' hP hD hS hU hW⟩⟩ rfl hn hl2.1 rfl (lv_room hcat) hd ⟨by omega, by omega⟩) hS (yAd_in hG' hD hS) (fun r w H1 locs1 hp hP1 hD1 hS1 _ => ?_)
  exact kk r w hp (by omega) (by omega) H1 locs1 ls hP1 hD1 hS1 hl2
/-- a static call -/
theorem y_callS {index maxL n : Nat} {y : MethodName} {cy : ByteArray} {ret : Option FieldType} {rm rmG : Room} {cB : ClassId} {os : List oSt} {post : Option Value → va_W → Prop} (As : List Value) (hG : yOK G own cc nL) (hC : yCb G cB os) (hRm : yRoom G rmG)
    (hM : ∀ (l : Launch) (D : va_G), yMt l y cy maxL ret rm D cB ws os As post) (hy : zHead y cy maxL n ret) (hl : zWd (.methodLink own index y)) (hi : zWd (.static y))
    (hf : rm.frames + 1 ≤ rmG.frames) (hlo : 8 + (maxL + 11) + rm.locals ≤ rmG.locals) (hce : cells + rm.cells ≤ rmG.cells) (hsl : slots + rm.slots ≤ rmG.slots) (hn : As.length = n) (hstk : stk = As.reverse ++ st) (hcat : (st.map fun v => v.category).sum ≤ 8) (hd : decode cc pc = .ok (.invokestatic index, 3))
    (kk : ∀ (r : Option Value) (w : va_W), post r w → yW G w (cells + rm.cells) (slots + rm.slots) lv (r.toList ++ st) (pc + 3)) : yW G ws cells slots lv stk pc := by
  obtain ⟨p, l, e, R, s, m, args, below, meth, c, Q, A, nn, D, cB', os'⟩ := G
  intro hc hs H locs ls hP hD hS hl2
  obtain ⟨hC1, hC2⟩ := hC
  subst hC1
  subst hC2
  have r1 := hRm.1
  have r2 := hRm.2.1
  have r3 := hRm.2.2.1
  have r4 := hRm.2.2.2
  have hG' := hG
  obtain ⟨g1, g2, g3, g4, g5, g6, g7, g8, g9⟩ := hG
  subst hstk
  refine y_back (D := D) (ws := ws) (rest := st) (va_runS (As := As) (Ts := []) ⟨g1, g2, g4, g3, fun w (hw : w ∈ []) => (List.not_mem_nil hw).elim⟩ (hM l D H.size) ⟨yCallB hG' hy hl ⟨by omega, by omega⟩, g7.at hi _⟩ ⟨yPre_blind, fun U hU hW => ⟨rfl, yWo_in hG' hP hD hS hU hW⟩⟩ rfl hn hl2.1 rfl (lv_room hcat) hd ⟨by omega, by omega⟩) hS (yAd_in hG' hD hS) (fun r w H1 locs1 hp hP1 hD1 hS1 _ => ?_)
  exact kk r w hp (by omega) (by omega) H1 locs1 ls hP1 hD1 hS1 hl2
theorem y_min {index a b : Nat} {rmG : Room} (hG : yOK G own cc nL) (hRm : yRoom G rmG) (hm : zMath own index Lib.Math.min.name Lib.Math.min.code) (hf : 1 ≤ rmG.frames) (hlo : (st.map fun v => v.category).sum + 13 ≤ rmG.locals) (ha : a < 2 ^ 31) (hb : b < 2 ^ 31) (hd : decode cc pc = .ok (.invokestatic index, 3)) (kk : yW G ws cells slots lv (.int (nI (min a b)) :: st) (pc + 3)) : yW G ws cells slots lv (.int (nI b) :: .int (nI a) :: st) pc := by
  obtain ⟨p, l, e, R, s, m, args, below, meth, c, Q, A, nn, D, cB, os⟩ := G
  intro hc hs H locs ls hP hD hS hl2
  have h := kk hc hs H locs ls hP hD hS hl2
  have e1 : nI (min a b) = if nI b < nI a then nI b else nI a := by
    by_cases q : b < a
    · rw [if_pos ((nI_ltI hb ha).mpr q), Nat.min_eq_right (by omega)]
    · rw [if_neg (fun z => q ((nI_ltI hb ha).mp z)), Nat.min_eq_left (by omega)]
  rw [e1] at h
  have r1 := hRm.1
  have r2 := hRm.2.1
  obtain ⟨g1, g2, g3, g4, g5, g6, g7, g8, g9⟩ := hG
  obtain ⟨m1, m2, m3, m4⟩ := hm
  exact va_mmin g1 g2 (g4.trans hl2.1.symm) g3 (g7.at m1 _) (g7.at m2 _) (g7.at m3 _) (g7.at m4 _) (by omega) (by omega) hc hs hd h
theorem y_max {index a b : Nat} {rmG : Room} (hG : yOK G own cc nL) (hRm : yRoom G rmG) (hm : zMath own index Lib.Math.max.name Lib.Math.max.code) (hf : 1 ≤ rmG.frames) (hlo : (st.map fun v => v.category).sum + 13 ≤ rmG.locals) (ha : a < 2 ^ 31) (hb : b < 2 ^ 31) (hd : decode cc pc = .ok (.invokestatic index, 3)) (kk : yW G ws cells slots lv (.int (nI (max a b)) :: st) (pc + 3)) : yW G ws cells slots lv (.int (nI b) :: .int (nI a) :: st) pc := by
  obtain ⟨p, l, e, R, s, m, args, below, meth, c, Q, A, nn, D, cB, os⟩ := G
  intro hc hs H locs ls hP hD hS hl2
  have h := kk hc hs H locs ls hP hD hS hl2
  have e1 : nI (max a b) = if nI a < nI b then nI b else nI a := by
    by_cases q : a < b
    · rw [if_pos ((nI_ltI ha hb).mpr q), Nat.max_eq_right (by omega)]
    · rw [if_neg (fun z => q ((nI_ltI ha hb).mp z)), Nat.max_eq_left (by omega)]
  rw [e1] at h
  have r1 := hRm.1
  have r2 := hRm.2.1
  obtain ⟨g1, g2, g3, g4, g5, g6, g7, g8, g9⟩ := hG
  obtain ⟨m1, m2, m3, m4⟩ := hm
  exact va_mmax g1 g2 (g4.trans hl2.1.symm) g3 (g7.at m1 _) (g7.at m2 _) (g7.at m3 _) (g7.at m4 _) (by omega) (by omega) hc hs hd h
theorem y_widen {k n : Nat} (h1 : cells ≤ k) (h2 : slots ≤ n) {rm : Room} (hR : yRoom G rm) (hk : k ≤ rm.cells) (hn : n ≤ rm.slots) (kk : yW G ws k n lv st pc) : yW G ws cells slots lv st pc := by
  obtain ⟨p, l, e, R, s, m, args, below, meth, c, Q, A, nn, D, cB, os⟩ := G
  intro hc hs H locs ls hP hD hS hl
  exact W.widen h1 h2 (kk (Nat.le_trans hk hR.2.2.1) (Nat.le_trans hn hR.2.2.2) H locs ls hP hD hS hl)
theorem y_objInit {idx x : Nat} {rm : Room} (hG : yOK G own cc nL) (hRm : yRoom G rm) (hl : zWd (.methodLink own idx Lib.objectInit)) (hi : zWd (.instanceMethod Lib.objectInit)) (hc : zWd (.code Lib.objectInit ⟨#[0xb1]⟩ 1 none)) (hf : 1 ≤ rm.frames) (hlo : (st.map fun v => v.category).sum + 12 ≤ rm.locals) (hd : decode cc pc = .ok (.invokespecial idx, 3)) (kk : yW G ws cells slots lv st (pc + 3)) : yW G ws cells slots lv (.ref x :: st) pc := by
  obtain ⟨p, l, e, R, s, m, args, below, meth, c, Q, A, nn, D, cB, os⟩ := G
  intro hc1 hs1 H locs ls hP hD hS hl2
  have r1 := hRm.1
  have r2 := hRm.2.1
  obtain ⟨g1, g2, g3, g4, g5, g6, g7, g8, g9⟩ := hG
  exact W.objInit g1 g2 g3 (g7.at hl _) (g7.at hi _) (g7.at hc _) rfl (by rw [g4]; exact hl2.1) rfl hd (by omega) (by show 2 * 0 + _ + 12 ≤ _; omega) (kk hc1 hs1 H locs ls hP hD hS hl2)
end YC
