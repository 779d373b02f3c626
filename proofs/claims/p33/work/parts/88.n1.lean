/-! pure methods: the heap only grows -/
def uPre (B : Nat → State → Prop) (sz : Nat) (av : List Value) : Array Value → State → Prop := va_Pc av (fun U => U.heap.size = sz ∧ zTb U ∧ B sz U)
def uQ (post : Option Value → Heap → Prop) (sz : Nat) : Array Value → State → Outcome → State → Prop := fun _ st oc t => (∃ r : Option Value, oc = .returned r ∧ post r t.heap) ∧ va_F (fun q => sz ≤ q) st t
def uMt (l : Launch) (y : MethodName) (cc : ByteArray) (maxL : Nat) (ret : Option FieldType) (rm : Room) (B : Nat → State → Prop) (av : List Value) (post : Nat → Option Value → Heap → Prop) : Prop :=
  ∀ sz, Met l y [Cond.code y cc maxL ret] rm (uPre B sz av) (uQ (post sz) sz) rm.cells rm.slots (fun q => sz ≤ q)
/-- a premise that reads no frame -/
def uBl (B : Nat → State → Prop) : Prop := ∀ (sz : Nat) (a : Array Value) (U : State) (g : JFrame) (mk : MethodId), B sz U → B sz (U.calling g mk a)
theorem uPre_blind {B : Nat → State → Prop} (hB : uBl B) {sz : Nat} {av : List Value} : FrameBlind (uPre B sz av) := by
  intro a U g mk ⟨h1, h2, h3, h4⟩
  exact ⟨h1, h2, fun w hw hs => va_tabsA (h3 w hw hs) hs, hB sz a U g mk h4⟩
def uJ (G : nCx) (P : Heap → Prop) : Heap → List Loc → Prop := fun H locs => va_S (fun q => (nS G).heap.size ≤ q) (nS G).heap H locs ∧ P H
def uRetI (G : nCx) (cc : ByteArray) (mc ms : Nat) (post : Option Value → Heap → Prop) : Prop := ∀ (P : Heap → Prop) x lv pc, decode cc pc = .ok (.ireturn, 1) → (∀ H, P H → post (some (.int x)) H) → nW G (uJ G P) mc ms lv [.int x] pc
def uRetA (G : nCx) (cc : ByteArray) (mc ms : Nat) (post : Option Value → Heap → Prop) : Prop := ∀ (P : Heap → Prop) a lv pc, decode cc pc = .ok (.areturn, 1) → (∀ H, P H → post (some (.ref a)) H) → nW G (uJ G P) mc ms lv [.ref a] pc
section UB
variable {l : Launch} {y : MethodName} {cc : ByteArray} {maxL : Nat} {rm : Room} {B : Nat → State → Prop} {av : List Value} {post : Nat → Option Value → Heap → Prop}
theorem uMt.ofI (hy : plainFor y = true) (hlen : (lg_sl av).length ≤ maxL)
    (k : ∀ G, nOK G y.cls cc maxL → nRoom G rm → B (nS G).heap.size (nS G) → uRetI G cc rm.cells rm.slots (post (nS G).heap.size) → nW G (uJ G (fun H => H = (nS G).heap)) 0 0 (lv_args 0 av) [] 0) : uMt l y cc maxL (some .int) rm B av post := by
  intro sz
  refine va_MetF (cc := cc) (maxL := maxL) (ret := some .int) hy rfl ?_
  intro p e s m args below meth c s₁ Bd hml hv
  obtain ⟨rfl, hsz, hT, hB⟩ := hv
  subst hsz
  have hl := lv_entry av (n := maxL) hlen
  rw [lg_entry_eq]
  refine k (p, l, e, rm, s, m, av.toArray, below, meth, c, _, maxL) ⟨Bd.exec, Bd.bytes, findClass_of_methodNamed Bd.named, hml, rfl, hT⟩ ⟨Nat.le_refl _, Nat.le_refl _, Nat.le_refl _, Nat.le_refl _⟩ hB ?_ (Nat.zero_le _) (Nat.zero_le _) _ _ _ ⟨va_S.rf, rfl⟩ hl
  intro P x lv1 pc1 hd hp hc hs H locs ls hJ hl
  exact W.iret (v := x) Bd.exec Bd.bytes Bd.returns (fun t ht hW => ⟨⟨_, rfl, hp _ (by rw [ht]; exact hJ.2)⟩, hJ.1.F ht⟩) hJ.1.2.2 hd Bd.notSynchronized
theorem uMt.ofA {rt : FieldType} (hrt : (∃ n, rt = .object n) ∨ ∃ t, rt = .array t) (hy : plainFor y = true) (hlen : (lg_sl av).length ≤ maxL)
    (k : ∀ G, nOK G y.cls cc maxL → nRoom G rm → B (nS G).heap.size (nS G) → uRetA G cc rm.cells rm.slots (post (nS G).heap.size) → nW G (uJ G (fun H => H = (nS G).heap)) 0 0 (lv_args 0 av) [] 0) : uMt l y cc maxL (some rt) rm B av post := by
  intro sz
  refine va_MetF (cc := cc) (maxL := maxL) (ret := some rt) hy rfl ?_
  intro p e s m args below meth c s₁ Bd hml hv
  obtain ⟨rfl, hsz, hT, hB⟩ := hv
  subst hsz
  have hl := lv_entry av (n := maxL) hlen
  rw [lg_entry_eq]
  refine k (p, l, e, rm, s, m, av.toArray, below, meth, c, _, maxL) ⟨Bd.exec, Bd.bytes, findClass_of_methodNamed Bd.named, hml, rfl, hT⟩ ⟨Nat.le_refl _, Nat.le_refl _, Nat.le_refl _, Nat.le_refl _⟩ hB ?_ (Nat.zero_le _) (Nat.zero_le _) _ _ _ ⟨va_S.rf, rfl⟩ hl
  intro P x lv1 pc1 hd hp hc hs H locs ls hJ hl
  exact W.aret (v := .ref x) Bd.exec Bd.bytes Bd.returns hrt (Or.inr ⟨x, rfl⟩) (fun t ht hW => ⟨⟨_, rfl, hp _ (by rw [ht]; exact hJ.2)⟩, hJ.1.F ht⟩) hJ.1.2.2 hd Bd.notSynchronized
end UB
/-- the JDK's classes are known -/
theorem j_arr {s : State} {ty : FieldType} (h : (Cond.arrayClass ty).before #[] s = true) : ∃ cA, ArrOfT s cA ty ∧ s.vm.findClass ("[" ++ ty.toString) = some cA := by
  obtain ⟨cA, kA, comp, h1, h2, h3⟩ := Cond.arrayClass_spec h
  exact ⟨cA, fun n z => ⟨fun k q => (by cases q), kA, h2, comp, h3⟩, h1⟩
theorem jTabs {s : State} (hT : zTb s) {C : String} {T : u_T} {N n : Nat} (hw : ∀ w ∈ u_ws C T N, zWd w) (hi : zWd (.instantiable C n)) : ∃ (cC : ClassId) (iS : Nat → Nat), u_Kn s C T N cC iS :=
  u_known (ws := u_ws C T N) (args := #[]) (fun w h => hT.at (hw w h) _) (fun _ h => h) (hT.at hi _)
/-- a contract over a world is one of a pure method, where the world is empty -/
theorem uMt.ofY {l : Launch} {y : MethodName} {cc : ByteArray} {maxL : Nat} {ret : Option FieldType} {rm : Room} {av : List Value} {os : List oSt} {post' : Option Value → va_W → Prop} {post : Nat → Option Value → Heap → Prop} {iS : Nat} {iB : Nat} (hiS : zWd (.instantiable RJ0 iS)) (hiB : zWd (.instantiable RJ4 iB)) (hab : zWd (.arrayClass .byte)) (hM : ∀ (D : va_G) (cB : ClassId), yMt l y cc maxL ret rm D cB [] os av post') (hp : ∀ sz r w H, post' r w → post sz r H) : uMt l y cc maxL ret rm (fun sz U => oOut os (fun q => sz ≤ q) U U.heap) av post := by
  intro sz p e ha hc hk s m args below hf happ hP hK
  obtain ⟨h1, h2, h3, h4⟩ := hP
  obtain ⟨c0, i0, k0⟩ := jTabs h3 ycl0.2.1 hiS
  obtain ⟨c1, i1, k1⟩ := jTabs h3 ycl1.2.1 hiB
  obtain ⟨cB, hB, nB⟩ := j_arr (h3.at hab #[])
  have hKn : va_K (fun k => if k = 0 then c0 else c1, fun k => if k = 0 then i0 else i1) jCl [(cB, .byte)] s := by
    refine ⟨fun k q hq => ?_, fun k q hq => ?_⟩
    · match k, hq with
      | 0, hq => cases hq; exact k0
      | 1, hq => cases hq; exact k1
      | k + 2, hq => simp at hq
    · match k, hq with
      | 0, hq => cases hq; exact ⟨hB, nB⟩
      | k + 1, hq => simp at hq
  have e0 : ∀ q, va_A [] sz q ↔ sz ≤ q := fun q => ⟨fun h => by
    rcases h with ⟨k, e, h⟩ | h
    · simp at h
    · exact h, Or.inr⟩
  obtain ⟨n, o, r1, r2, r3, r4⟩ := hM (fun k => if k = 0 then c0 else c1, fun k => if k = 0 then i0 else i1) cB sz p e ha hc hk s m args below hf happ ⟨h1, h2, (fun k q h => by simp at h), hKn, ⟨fun i j p q h => by simp at h, fun k q h => by simp at h⟩, h3, h4.narrow (fun q h => (e0 q).mp h)⟩ trivial
  obtain ⟨⟨⟨r, w, g1, g2, g3⟩, g4⟩, L, g5, g6⟩ := r4
  refine ⟨n, o, r1, r2, r3, ⟨⟨r, g1, hp sz r w _ g2⟩, g4.1, fun q h5 h6 => g4.2 q h5 (fun h => h6 ((e0 q).mp h))⟩, L, g5, fun q hq => (e0 _).mp (g6 q hq)⟩
/-! calls of pure methods -/
theorem u_back {p : Program} {l : Launch} {e : Env} {R : Room} {s : State} {m : MethodId} {args : Array Value} {below : List Frame} {meth : Method} {c : Code} {H : Heap} {locs : List Loc} {cells slots mc ms pc : Nat} {Q : State → Prop} {ls : Array Slot} {st0 rest : List Value} {post : Option Value → Heap → Prop} {a : Array Value}
    (hr : va_Run p l e R s m args below meth c H locs cells slots mc ms (F0 m pc ls st0) rest (uQ post H.size a) (fun q => H.size ≤ q))
    (kk : ∀ (r : Option Value) (H1 : Heap) (L : List Loc), post r H1 → H.size ≤ H1.size → (∀ q : Nat, q < H.size → H1[q]? = H[q]?) → (∀ q ∈ L, H.size ≤ q.base) → W p l e R s m args below meth c H1 (locs ++ L) (cells + mc) (slots + ms) Q (F0 m (pc + 3) ls (r.toList ++ rest))) : W p l e R s m args below meth c H locs cells slots Q (F0 m pc ls st0) := by
  intro T hT X
  obtain ⟨v, st₀, t, T', L, h0, X', hL, e1, e2, ⟨⟨r, hv, hp⟩, hF⟩, st⟩ := hr T hT X
  cases hv
  obtain ⟨t2, a1, b1⟩ := kk v T'.heap L (by rw [e1]; exact hp) (by rw [e1, ← h0]; exact hF.1) (fun q hq => by rw [e1, hF.2 q (by rw [h0]; exact hq) (by omega), h0]) hL T' rfl X'
  exact ⟨t2, st t2 a1, b1⟩
/-- an invariant that holds on in a larger heap -/
def nExt (J : Heap → List Loc → Prop) : Prop := ∀ (H H1 : Heap) (locs L : List Loc), J H locs → H.size ≤ H1.size → (∀ q : Nat, q < H.size → H1[q]? = H[q]?) → (∀ q ∈ L, H.size ≤ q.base) → J H1 (locs ++ L)
section UC
variable {G : nCx} {J : Heap → List Loc → Prop} {cells slots : Nat} {lv lv' : zLv} {st stk : List Value} {pc : Nat} {own : String} {cc : ByteArray} {nL : Nat}
theorem nCallB {p : Program} {l : Launch} {e : Env} {R : Room} {s : State} {m : MethodId} {args : Array Value} {below : List Frame} {meth : Method} {c : Code} {Q : State → Prop} {nn : Nat} {index maxL n : Nat} {y : MethodName} {cy : ByteArray} {ret : Option FieldType} {rm : Room} (hG : nOK (p, l, e, R, s, m, args, below, meth, c, Q, nn) own cc nL) (hy : zHead y cy maxL n ret) (hl : zWd (.methodLink own index y)) (hR : rm.frames + 1 ≤ R.frames ∧ 8 + (maxL + 11) + rm.locals ≤ R.locals) : CallB R s args own index y cy maxL ret [.code y cy maxL ret] rm rm.cells rm.slots n := by
  obtain ⟨g1, g2, g3, g4, g5, g7⟩ := hG
  obtain ⟨y1, y2, y3, y4, y5⟩ := hy
  refine ⟨rfl, rfl, hR.1, hR.2, fun w hw a' U hW => ?_, List.mem_cons_self, g7.at y1 _, g7.at y2 _, ⟨y3, y4⟩, fun sig h => ?_, g7.at hl _⟩
  · cases List.mem_singleton.mp hw
    exact zst_warm y1.2 hW (g7.at y1 #[])
  · rw [h] at y5
    exact (Option.some.inj y5).symm
theorem n_callSu {index maxL n : Nat} {y : MethodName} {cy : ByteArray} {ret : Option FieldType} {rm rmG : Room} {B : Nat → State → Prop} {post : Nat → Option Value → Heap → Prop} {J' : Option Value → Heap → List Loc → Prop} (As : List Value) (hG : nOK G own cc nL) (hRm : nRoom G rmG) (hbl : uBl B)
    (hB : ∀ H locs, J H locs → ∀ U : State, U.heap = H → (nS G).WarmedH U.vm → B H.size U) (hM : ∀ (l : Launch), uMt l y cy maxL ret rm B As post) (hy : zHead y cy maxL n ret) (hl : zWd (.methodLink own index y)) (hi : zWd (.static y))
    (hf : rm.frames + 1 ≤ rmG.frames) (hlo : 8 + (maxL + 11) + rm.locals ≤ rmG.locals) (hce : cells + rm.cells ≤ rmG.cells) (hsl : slots + rm.slots ≤ rmG.slots) (hn : As.length = n) (hstk : stk = As.reverse ++ st) (hcat : (st.map fun v => v.category).sum ≤ 8) (hd : decode cc pc = .ok (.invokestatic index, 3))
    (hJ' : ∀ (r : Option Value) (H H1 : Heap) (locs L : List Loc), J H locs → post H.size r H1 → H.size ≤ H1.size → (∀ q : Nat, q < H.size → H1[q]? = H[q]?) → (∀ q ∈ L, H.size ≤ q.base) → J' r H1 (locs ++ L))
    (kk : ∀ (r : Option Value), nW G (J' r) (cells + rm.cells) (slots + rm.slots) lv (r.toList ++ st) (pc + 3)) : nW G J cells slots lv stk pc := by
  obtain ⟨p, l, e, R, s, m, args, below, meth, c, Q, nn⟩ := G
  intro hc hs H locs ls hJ hl2
  have r1 := hRm.1
  have r2 := hRm.2.1
  have r3 := hRm.2.2.1
  have r4 := hRm.2.2.2
  have hG' := hG
  obtain ⟨g1, g2, g3, g4, g5, g7⟩ := hG
  subst hstk
  refine u_back (rest := st) (va_runS (As := As) (Ts := []) ⟨g1, g2, g4, g3, fun w (hw : w ∈ []) => (List.not_mem_nil hw).elim⟩ (hM l H.size) ⟨nCallB hG' hy hl ⟨by omega, by omega⟩, g7.at hi _⟩ ⟨uPre_blind hbl, fun U hU hW => ⟨rfl, by rw [hU], g7.warm hW, hB H locs hJ U hU hW⟩⟩ rfl hn hl2.1 rfl (lv_room hcat) hd ⟨by omega, by omega⟩) (fun r H1 L hp h1 h2 h3 => ?_)
  exact kk r (by omega) (by omega) H1 (locs ++ L) ls (hJ' r H H1 locs L hJ hp h1 h2 h3) hl2
/-- virtual, on a String outside -/
theorem n_callVu {index maxL n b : Nat} {y : MethodName} {cy : ByteArray} {ret : Option FieldType} {rm rmG : Room} {B : Nat → State → Prop} {post : Nat → Option Value → Heap → Prop} {J' : Option Value → Heap → List Loc → Prop} (As : List Value) (hG : nOK G own cc nL) (hRm : nRoom G rmG) (hbl : uBl B)
    (hB : ∀ H locs, J H locs → ∀ U : State, U.heap = H → (nS G).WarmedH U.vm → B H.size U) (hb : ∀ H locs, J H locs → ∃ A, va_O "java/lang/String" b A (nS G) H) (hM : ∀ (l : Launch), uMt l y cy maxL ret rm B (.ref b :: As) post) (hy : zHead y cy maxL n ret) (hl : zWd (.methodLink own index y)) (hi : zWd (.instanceMethod y)) (hse : zWd (.selects "java/lang/String" y y))
    (hf : rm.frames + 1 ≤ rmG.frames) (hlo : 8 + (maxL + 11) + rm.locals ≤ rmG.locals) (hce : cells + rm.cells ≤ rmG.cells) (hsl : slots + rm.slots ≤ rmG.slots) (hn : As.length = n) (hstk : stk = As.reverse ++ .ref b :: st) (hcat : (st.map fun v => v.category).sum ≤ 8) (hd : decode cc pc = .ok (.invokevirtual index, 3))
    (hJ' : ∀ (r : Option Value) (H H1 : Heap) (locs L : List Loc), J H locs → post H.size r H1 → H.size ≤ H1.size → (∀ q : Nat, q < H.size → H1[q]? = H[q]?) → (∀ q ∈ L, H.size ≤ q.base) → J' r H1 (locs ++ L))
    (kk : ∀ (r : Option Value), nW G (J' r) (cells + rm.cells) (slots + rm.slots) lv (r.toList ++ st) (pc + 3)) : nW G J cells slots lv stk pc := by
  obtain ⟨p, l, e, R, s, m, args, below, meth, c, Q, nn⟩ := G
  intro hc hs H locs ls hJ hl2
  have r1 := hRm.1
  have r2 := hRm.2.1
  have r3 := hRm.2.2.1
  have r4 := hRm.2.2.2
  have hG' := hG
  obtain ⟨g1, g2, g3, g4, g5, g7⟩ := hG
  subst hstk
  obtain ⟨A, cellB, hb1, hb2, hb3, -⟩ := hb H locs hJ
  refine u_back (rest := st) (va_runV (As := As) ⟨g1, g2, g4, g3, fun w (hw : w ∈ []) => (List.not_mem_nil hw).elim⟩ (hM l H.size) ⟨nCallB hG' hy hl ⟨by omega, by omega⟩, g7.at hi _, g7.at hse _⟩ ⟨uPre_blind hbl, ⟨cellB, hb1, hb2, hb3⟩, fun U hU hW => ⟨rfl, by rw [hU], g7.warm hW, hB H locs hJ U hU hW⟩⟩ rfl hn hl2.1 rfl (lv_room hcat) hd ⟨by omega, by omega⟩) (fun r H1 L hp h1 h2 h3 => ?_)
  exact kk r (by omega) (by omega) H1 (locs ++ L) ls (hJ' r H H1 locs L hJ hp h1 h2 h3) hl2
end UC
