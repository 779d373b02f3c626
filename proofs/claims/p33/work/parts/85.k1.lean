/-! constructors: contract, end, call -/
/-- F' is F with more cells -/
def zMore (F F' : zFr) : Prop := F.2.1 ≤ F'.2.1 ∧ ∀ k, k < F.2.1 → F'.1 k = F.1 k
def zQn (D : va_G) (cs : Nat → ClassId) (F : zFr) (sz : Nat) (post : zFr → zStore → Prop) : Array Value → State → Outcome → State → Prop := fun _ st oc t => (∃ (F' : zFr) (u : zStore), oc = .returned none ∧ post F' u ∧ (zMore F F' ∧ zJn F' ∧ ∀ k, F.2.1 ≤ k → k < F'.2.1 → sz ≤ F'.1 k) ∧ va_P D vwCl (zws cs F' u) t.heap) ∧ va_F (zAd F sz) st t
def zAO (G : zCx) : Prop := match G with
  | (p, l, e, R, s, m, args, below, meth, c, Q, A, n, D, cs) => va_AO "LineLearner$Format" s
def zPreO (D : va_G) (cs : Nat → ClassId) (F : zFr) (I : zStore) (sz : Nat) (av : List Value) : Array Value → State → Prop := fun a U => zPre D cs F I sz av a U ∧ va_AO "LineLearner$Format" U
theorem zPreO_blind {D : va_G} {cs : Nat → ClassId} {F : zFr} {I : zStore} {sz : Nat} {av : List Value} : FrameBlind (zPreO D cs F I sz av) := fun a U g mk h => ⟨zPre_blind a U g mk h.1, va_AO.moved (u := U) (U := U.calling g mk a) (Vm.Alike.refl U.vm) h.2⟩
def zMn (l : Launch) (y : MethodName) (cc : ByteArray) (maxL : Nat) (rm : Room) (D : va_G) (cs : Nat → ClassId) (F : zFr) (I : zStore) (av : List Value) (post : zFr → zStore → Prop) : Prop :=
  ∀ sz, Met l y [Cond.code y cc maxL none] rm (zPreO D cs F I sz av) (zQn D cs F sz post) rm.cells rm.slots (zAd F sz)
def zRetN (G : zCx) (F : zFr) (cc : ByteArray) (mc ms : Nat) (post : zFr → zStore → Prop) : Prop := ∀ F' I lv pc, decode cc pc = .ok (.return_, 1) → zMore F F' → post F' I → zW G F' mc ms I lv [] pc
section ZKN
variable {G : zCx} {F : zFr} {L : List (Nat × zSpec)} {cells slots : Nat} {I : zStore} {lv : zLv} {st stk : List Value} {pc : Nat} {own : String} {cc : ByteArray} {nL : Nat}
theorem zMn.ofN {l : Launch} {y : MethodName} {maxL : Nat} {rm : Room} {D : va_G} {cs : Nat → ClassId} {av : List Value} {post : zFr → zStore → Prop} (hst : l.stackTraces = false) (hy : plainName y.cls = true) (hn : y.name = "<init>") (hlen : (lg_sl av).length ≤ maxL)
    (k : ∀ G, zOK G y.cls cc maxL → zIni G → zAO G → zRoom G rm → zRetN G F cc rm.cells rm.slots post → zW G F 0 0 I (lv_args 0 av) [] 0) : zMn l y cc maxL rm D cs F I av post := by
  intro sz
  refine Met.ofW (cc := cc) (maxL := maxL) (ret := none) hy rfl ?_
  intro p e s m args below meth c s₁ B hml hv
  have hin : meth.name = "<init>" := (name_of_methodNamed B.named B.method).1.trans hn
  refine zBody hst hlen _ B hml hv.1 (fun G hG hok hrm => k G hok ?_ ?_ hrm ?_)
  · subst hG
    exact hin
  · subst hG
    exact hv.2
  · subst hG
    intro F1 I1 lv1 pc1 hd hm hp hc hs H locs ls hP hD hS hl
    have hj := zD_inj hD
    refine W.vret B.exec B.bytes B.returns (fun t ht hW => ⟨⟨F1, I1, rfl, hp, ⟨hm, hj, fun k h1 h2 => ?_⟩, by rw [ht]; exact hP⟩, hS.F ht⟩) hS.2.2 hd B.notSynchronized
    rcases zD_in hD h2 with ⟨j, hj1, hj2⟩ | q
    · have := hj k j h2 (Nat.lt_of_lt_of_le hj1 hm.1) (hj2.trans (hm.2 j hj1).symm)
      omega
    · exact q
theorem zN_back {p : Program} {l : Launch} {e : Env} {R : Room} {s : State} {m : MethodId} {args : Array Value} {below : List Frame} {meth : Method} {c : Code} {H : Heap} {locs : List Loc} {mc ms : Nat} {Q : State → Prop} {D : va_G} {cs : Nat → ClassId} {A0 : Nat → Prop} {H0 : Heap} {ls : Array Slot} {st0 rest : List Value} {post : zFr → zStore → Prop} {a : Array Value}
    (hr : va_Run p l e R s m args below meth c H locs cells slots mc ms (F0 m pc ls st0) rest (zQn D cs F H.size post a) (zAd F H.size)) (hS : va_S A0 H0 H locs) (hA : ∀ q, zAd F H.size q → A0 q)
    (kk : ∀ (F' : zFr) (u : zStore) (H1 : Heap) (locs1 : List Loc), post F' u → zMore F F' → va_P D vwCl (zws cs F' u) H1 → va_D A0 (zws cs F' u) → va_S A0 H0 H1 locs1 → W p l e R s m args below meth c H1 locs1 (cells + mc) (slots + ms) Q (F0 m (pc + 3) ls rest)) : W p l e R s m args below meth c H locs cells slots Q (F0 m pc ls st0) := by
  intro T hT X
  obtain ⟨v, st₀, t, T', L, h0, X', hL, e1, e2, ⟨⟨F', u, hv, hp, ⟨hm, hj, hge⟩, hb⟩, hF⟩, st⟩ := hr T hT X
  cases hv
  obtain ⟨k1, k2, k3⟩ := vx_keep h0 e1 hS (fun q _ h => hA q h) hA hL hF
  have hD : va_D A0 (zws cs F' u) := zD_of hj fun k hk => by
    by_cases q : k < F.2.1
    · rw [hm.2 k q]
      exact hA _ (Or.inl ⟨k, q, rfl⟩)
    · exact hA _ (Or.inr (hge k (by omega) hk))
  obtain ⟨t2, a1, b1⟩ := kk F' u T'.heap (locs ++ L) hp hm (by rw [e1]; exact hb) hD k3 T' rfl X'
  exact ⟨t2, st t2 a1, b1⟩
theorem z_callI {index maxL n x : Nat} {y : MethodName} {cy : ByteArray} {rm rmG : Room} {post : zFr → zStore → Prop} (As : List Value) (hG : zOK G own cc nL) (hO : zAO G) (hRm : zRoom G rmG)
    (hM : ∀ (l : Launch) (D : va_G) (cs : Nat → ClassId), l.stackTraces = false → zMn l y cy maxL rm D cs F I (.ref x :: As) post) (hy : zHead y cy maxL n none) (hl : zWd (.methodLink own index y)) (hi : zWd (.instanceMethod y)) (hyn : y.name = "<init>")
    (hf : rm.frames + 1 ≤ rmG.frames) (hlo : 8 + (maxL + 11) + rm.locals ≤ rmG.locals) (hce : cells + rm.cells ≤ rmG.cells) (hsl : slots + rm.slots ≤ rmG.slots) (hn : As.length = n) (hstk : stk = As.reverse ++ .ref x :: st) (hcat : (st.map fun v => v.category).sum ≤ 8) (hd : decode cc pc = .ok (.invokespecial index, 3))
    (kk : ∀ (F' : zFr) (I' : zStore), zMore F F' → post F' I' → zW G F' (cells + rm.cells) (slots + rm.slots) I' lv st (pc + 3)) : zW G F cells slots I lv stk pc := by
  obtain ⟨p, l, e, R, s, m, args, below, meth, c, Q, A, nn, D, cs⟩ := G
  intro hc hs H locs ls hP hD hS hl2
  have r1 := hRm.1
  have r2 := hRm.2.1
  have r3 := hRm.2.2.1
  have r4 := hRm.2.2.2
  have hG' := hG
  obtain ⟨g1, g2, g3, g4, g5, g6, g7, g8, g9, g10, g11⟩ := hG
  subst hstk
  refine zN_back (D := D) (cs := cs) (F := F) (rest := st) (va_runI (As := As) (Ts := []) ⟨g1, g2, g4, g3, fun w (hw : w ∈ []) => (List.not_mem_nil hw).elim⟩ (hM l D cs g11 H.size) ⟨zCallB hG' hy hl ⟨by omega, by omega⟩, hyn, g7.at hi _⟩ ⟨zPreO_blind, fun U hU hW => ⟨⟨rfl, zWo_in hG' hP hD hS hU hW⟩, va_AO.moved hW.alike hO⟩⟩ rfl hn hl2.1 rfl (lv_room hcat) hd ⟨by omega, by omega⟩) hS (zAd_in (G := (p, l, e, R, s, m, args, below, meth, c, Q, A, nn, D, cs)) hG' hD hS) (fun F' u H1 locs1 hp hm hP1 hD1 hS1 => ?_)
  exact kk F' u hm hp (by omega) (by omega) H1 locs1 ls hP1 hD1 hS1 hl2
theorem z_callIN {index maxL n x : Nat} {host : String} {y : MethodName} {cy : ByteArray} {rm rmG : Room} {post : zFr → zStore → Prop} (As : List Value) (hG : zOK G own cc nL) (hO : zAO G) (hRm : zRoom G rmG)
    (hM : ∀ (l : Launch) (D : va_G) (cs : Nat → ClassId), l.stackTraces = false → zMn l y cy maxL rm D cs F I (.ref x :: As) post) (hy : zHead y cy maxL n none) (hl : zWd (.methodLinkNest own index y host)) (hi : zWd (.instanceMethod y)) (hyn : y.name = "<init>")
    (hf : rm.frames + 1 ≤ rmG.frames) (hlo : 8 + (maxL + 11) + rm.locals ≤ rmG.locals) (hce : cells + rm.cells ≤ rmG.cells) (hsl : slots + rm.slots ≤ rmG.slots) (hn : As.length = n) (hstk : stk = As.reverse ++ .ref x :: st) (hcat : (st.map fun v => v.category).sum ≤ 8) (hd : decode cc pc = .ok (.invokespecial index, 3))
    (kk : ∀ (F' : zFr) (I' : zStore), zMore F F' → post F' I' → zW G F' (cells + rm.cells) (slots + rm.slots) I' lv st (pc + 3)) : zW G F cells slots I lv stk pc := by
  obtain ⟨p, l, e, R, s, m, args, below, meth, c, Q, A, nn, D, cs⟩ := G
  intro hc hs H locs ls hP hD hS hl2
  have r1 := hRm.1
  have r2 := hRm.2.1
  have r3 := hRm.2.2.1
  have r4 := hRm.2.2.2
  have hG' := hG
  obtain ⟨g1, g2, g3, g4, g5, g6, g7, g8, g9, g10, g11⟩ := hG
  subst hstk
  refine zN_back (D := D) (cs := cs) (F := F) (rest := st) (va_runIN (As := As) (Ts := []) ⟨g1, g2, g4, g3, fun w (hw : w ∈ []) => (List.not_mem_nil hw).elim⟩ (hM l D cs g11 H.size) ⟨zCallN hG' hy hl ⟨by omega, by omega⟩, hyn, g7.at hi _⟩ ⟨zPreO_blind, fun U hU hW => ⟨⟨rfl, zWo_in hG' hP hD hS hU hW⟩, va_AO.moved hW.alike hO⟩⟩ rfl hn hl2.1 rfl (lv_room hcat) hd ⟨by omega, by omega⟩) hS (zAd_in (G := (p, l, e, R, s, m, args, below, meth, c, Q, A, nn, D, cs)) hG' hD hS) (fun F' u H1 locs1 hp hm hP1 hD1 hS1 => ?_)
  exact kk F' u hm hp (by omega) (by omega) H1 locs1 ls hP1 hD1 hS1 hl2
theorem z_objInit {idx x : Nat} {rm : Room} (hG : zOK G own cc nL) (hRm : zRoom G rm) (hl : zWd (.methodLink own idx Lib.objectInit)) (hi : zWd (.instanceMethod Lib.objectInit)) (hc : zWd (.code Lib.objectInit ⟨#[0xb1]⟩ 1 none)) (hf : 1 ≤ rm.frames) (hlo : (st.map fun v => v.category).sum + 12 ≤ rm.locals) (hd : decode cc pc = .ok (.invokespecial idx, 3)) (kk : zW G F cells slots I lv st (pc + 3)) : zW G F cells slots I lv (.ref x :: st) pc := by
  obtain ⟨p, l, e, R, s, m, args, below, meth, c, Q, A, nn, D, cs⟩ := G
  intro hc1 hs1 H locs ls hP hD hS hl2
  have r1 := hRm.1
  have r2 := hRm.2.1
  obtain ⟨g1, g2, g3, g4, g5, g6, g7, g8, g9, g10, g11⟩ := hG
  exact W.objInit g1 g2 g3 (g7.at hl _) (g7.at hi _) (g7.at hc _) rfl (by rw [g4]; exact hl2.1) rfl hd (by omega) (by show 2 * 0 + _ + 12 ≤ _; omega) (kk hc1 hs1 H locs ls hP hD hS hl2)
/-- a new object: ints 0, references null -/
theorem k_newO {ci N index : Nat} {C : String} {T : u_T} {ty : Nat → FieldType} {rm : Room} (fs : List (Option (Option Nat))) (hG : zOK G own cc nL) (hRm : zRoom G rm) (hW : zWf (zext F L)) (hz : I (F.2.1 + L.length) = fun _ => 0) (hcl : zCl ci C T N ty) (hlk : zWd (.classLink own index C)) (hin : zWd (.instantiable C N)) (hini : zWd (.initialized C)) (hfs : ∀ ad : Nat → Nat, ∀ j, j < N → defaultValue (ty j) = vp_V (zfv ad (fun _ => 0) 0 fs) j) (hno : ∀ t, ¬ zrefs (.inl (ci, fs)) t) (hce : cells + 1 ≤ rm.cells) (hsl : slots + N ≤ rm.slots) (hd : decode cc pc = .ok (.new index, 3))
    (kk : ∀ a, zWf (zext F (L ++ [(a, .inl (ci, fs))])) → zW G (zext F (L ++ [(a, .inl (ci, fs))])) (cells + 1) (slots + N) I lv (.ref a :: st) (pc + 3)) : zW G (zext F L) cells slots I lv st pc := by
  obtain ⟨p, l, e, R, s, m, args, below, meth, c, Q, A, nn, D, cs⟩ := G
  intro hc hs H locs ls hP hD hS hl
  have r3 := hRm.2.2.1
  have r4 := hRm.2.2.2
  obtain ⟨g1, g2, g3, g4, g5, g6, g7, g8, g9, g10, g11⟩ := hG
  refine va_new (ci := ci) (fs := zfv (zext F L).1 (fun _ => 0) 0 fs) g1 g2 (Ts := u_ws C T N) (fun w hw => g7.at (hcl.2.1 w hw) _) (fun _ h => h) ty hcl.2.2.1 g3 (g7.at hlk _) (g7.at hin _) (g7.at hini _) g6 hP hD hS g10 hcl.1 (hfs _) (by omega) (by omega) hd (fun q H1 hP1 hD1 hS1 => ?_)
  have hw : zws cs (zext F L) I ++ [(q, .inr (ci, zfv (zext F L).1 (fun _ => 0) 0 fs))] = zws cs (zext F (L ++ [(q, .inl (ci, fs))])) I := by
    rw [← zext_grow, zws_grow hW]
    congr 3
    rw [zE_obj (zgrow_spn (F := zext F L)), zext_n, hz]
    rw [zfv_ad (ad' := (zgrow (zext F L) q (.inl (ci, fs))).1) (ad := (zext F L).1) (fun t ht => (hno t ht).elim)]
  rw [hw] at hP1 hD1
  exact kk q (by rw [← zext_grow]; exact zWf_grow hW (fun t ht => (hno t ht).elim)) (by omega) (by omega) H1 locs ls hP1 hD1 hS1 hl
/-- a new row of references -/
theorem k_newQ {index N : Nat} {rm : Room} (hG : zOK G own cc nL) (hRm : zRoom G rm) (hW : zWf (zext F L)) (hz : I (F.2.1 + L.length) = fun _ => 0) (hlk : zWd (.classLink own index "LineLearner$Format")) (hov : zAO G) (hN : N ≤ 100000) (hce : cells + 1 ≤ rm.cells) (hsl : slots + N ≤ rm.slots) (hd : decode cc pc = .ok (.anewarray index, 3)) (kk : ∀ a, zWf (zext F (L ++ [(a, .inr (.inr (List.replicate N none)))])) → zW G (zext F (L ++ [(a, .inr (.inr (List.replicate N none)))])) (cells + 1) (slots + N) I lv (.ref a :: st) (pc + 3)) : zW G (zext F L) cells slots I lv (.int (zI (N : Int)) :: st) pc := by
  obtain ⟨p, l, e, R, s, m, args, below, meth, c, Q, A, nn, D, cs⟩ := G
  intro hc hs H locs ls hP hD hS hl
  have r3 := hRm.2.2.1
  have r4 := hRm.2.2.2
  obtain ⟨g1, g2, g3, g4, g5, g6, g7, g8, g9, g10, g11⟩ := hG
  have hneg : ¬ zI (N : Int) < 0 := fun q => by
    have := (zI_lt (a := (N : Int)) (b := 0) (by omega) (by omega)).mp q
    omega
  have hcln : (zI (N : Int)).toNatClampNeg = N := by
    have := zI_clamp (z := (N : Int)) (by omega) (by omega)
    omega
  refine va_newq (C := "LineLearner$Format") (N' := N) g1 g2 g3 (g7.at hlk _) hov g6 hP hD hS g10 hneg hcln (by omega) (by omega) (by omega) hd (fun q cA H1 hK2 hP1 hD1 hS1 => ?_)
  have e1 := (hK2.2 4 (cs 4, .object "LineLearner$Format") rfl).2
  have e2 := (hK2.2 5 (cA, .object "LineLearner$Format") rfl).2
  obtain ⟨-, -, -, -, -, x1⟩ := e1
  obtain ⟨-, -, -, -, -, x2⟩ := e2
  have e3 : some (cs 4) = some cA := x1.symm.trans x2
  have e4 : cA = cs 4 := (Option.some.inj e3).symm
  subst e4
  have hw : zws cs (zext F L) I ++ [(q, .inl (cs 4, N, .inr (.inr (.inr (.inr (fun _ => none))))))] = zws cs (zext F (L ++ [(q, .inr (.inr (List.replicate N none)))])) I := by
    rw [← zext_grow, zws_grow hW]
    congr 3
    rw [zE_row (zgrow_spn (F := zext F L)), List.length_replicate]
    congr 7
    funext j
    rw [List.getD_eq_getElem?_getD, List.getElem?_replicate]
    split <;> rfl
  rw [hw] at hP1 hD1
  have hWn : zWf (zgrow (zext F L) q (.inr (.inr (List.replicate N none)))) := zWf_grow hW fun t ht => by
    have ht : some t ∈ List.replicate N (none : Option Nat) := ht
    exact absurd (List.eq_of_mem_replicate ht) (by simp)
  exact kk q (by rw [← zext_grow]; exact hWn) (by omega) (by omega) H1 locs ls hP1 hD1 hS1 hl
/-- a row gets a cell -/
theorem k_ast {ci : Nat} {C : String} {T : u_T} {N : Nat} {fs : List (Option (Option Nat))} {i t x y : Nat} {ix : Int} {r : List (Option Nat)} (hG : zOK G own cc nL) (hW : zWf (zext F L)) (hi : L[i]? = some (x, .inr (.inr r))) (hc0 : vwCl[ci]? = some (C, T, N)) (hC : C = "LineLearner$Format") (hj : L[t]? = some (y, .inl (ci, fs))) (hix : 0 ≤ ix ∧ ix < r.length) (hrl : r.length ≤ 2147483647) (hd : decode cc pc = .ok (.aastore, 1))
    (kk : zWf (zext F (L.set i (x, .inr (.inr (r.set ix.toNat (some (F.2.1 + t))))))) → zW G (zext F (L.set i (x, .inr (.inr (r.set ix.toNat (some (F.2.1 + t))))))) cells slots I lv st (pc + 1)) : zW G (zext F L) cells slots I lv (.ref y :: .int (zI ix) :: .ref x :: st) pc := by
  have hil : i < L.length := (List.getElem?_eq_some_iff.mp hi).1
  have htl : t < L.length := (List.getElem?_eq_some_iff.mp hj).1
  have at0 := zext_at L F hi (k := F.2.1 + i) rfl
  have at1 := zext_at L F hj (k := F.2.1 + t) rfl
  have hb : F.2.1 + i < (zext F L).2.1 := by rw [zext_n]; omega
  have hbt : F.2.1 + t < (zext F L).2.1 := by rw [zext_n]; omega
  have hW2 : zWf (zset (zext F L) (F.2.1 + i) (.inr (.inr (r.set ix.toNat (some (F.2.1 + t)))))) := zWf_set hW fun t9 h9 => by
    have h9 : some t9 ∈ r.set ix.toNat (some (F.2.1 + t)) := h9
    rcases List.mem_or_eq_of_mem_set h9 with q | q
    · exact hW (F.2.1 + i) t9 hb (by rw [at0.2]; exact q)
    · cases q
      exact hbt
  have hk2 := kk (by rw [← zset_ext hi rfl]; exact hW2)
  rw [← zset_ext hi rfl] at hk2
  obtain ⟨p, l, e, R, s, m, args, below, meth, c, Q, A, nn, D, cs⟩ := G
  intro hc hs H locs ls hP hD hS hl
  obtain ⟨g1, g2, g3, g4, g5, g6, g7, g8, g9, g10, g11⟩ := hG
  have hpt : (zws cs (zext F L) I)[F.2.1 + i]? = some (x, .inl (cs 4, r.length, .inr (.inr (.inr (.inr (fun j => (r.getD j none).map (zext F L).1)))))) := by
    rw [zws_get hb, zE_row at0.2, at0.1]
  have hpt2 : (zws cs (zext F L) I)[F.2.1 + t]? = some (y, .inr (ci, zfv (zext F L).1 (I (F.2.1 + t)) 0 fs)) := by
    rw [zws_get hbt, zE_obj at1.2, at1.1]
  subst hC
  refine va_astq g1 g2 g6 hP hD hS (F.2.1 + i) 4 (F.2.1 + t) ci hpt rfl hpt2 hc0 (zI_in hix.1 hix.2 hrl) hd (fun H1 locs1 hP1 hD1 hS1 => ?_)
  have hcl : (zI ix).toNatClampNeg = ix.toNat := by
    have := zI_clamp (z := ix) hix.1 (by omega)
    omega
  have e1 : (zws cs (zext F L) I).set (F.2.1 + i) (x, .inl (cs 4, r.length, .inr (.inr (.inr (.inr (va_up (fun j => (r.getD j none).map (zext F L).1) (zI ix).toNatClampNeg (some y))))))) = zws cs (zset (zext F L) (F.2.1 + i) (.inr (.inr (r.set ix.toNat (some (F.2.1 + t)))))) I := by
    have h9 := zws_spec (cs := cs) (F := zext F L) (I := I) (b := F.2.1 + i) (sp := .inr (.inr (r.set ix.toNat (some (F.2.1 + t))))) hb rfl
    rw [zE_row (F := zset (zext F L) (F.2.1 + i) (.inr (.inr (r.set ix.toNat (some (F.2.1 + t)))))) (if_pos rfl)] at h9
    rw [← h9, at0.1, hcl, List.length_set]
    congr 9
    funext j
    show va_up _ _ _ j = ((r.set ix.toNat (some (F.2.1 + t))).getD j none).map (zext F L).1
    unfold va_up
    rw [List.getD_eq_getElem?_getD, List.getElem?_set]
    by_cases q : j = ix.toNat
    · subst q
      rw [if_pos rfl, if_pos rfl, if_pos (by omega)]
      show some y = some ((zext F L).1 (F.2.1 + t))
      rw [at1.1]
    · rw [if_neg q, if_neg (fun q2 => q q2.symm)]
      show Option.map (zext F L).1 (r.getD j none) = _
      rw [List.getD_eq_getElem?_getD]
  rw [e1] at hP1 hD1
  exact hk2 hc hs H1 locs1 ls hP1 hD1 hS1 hl
end ZKN
section ZKP
variable {G : zCx} {F : zFr} {L : List (Nat × zSpec)} {cells slots : Nat} {I : zStore} {lv : zLv} {st : List Value} {pc : Nat} {own : String} {cc : ByteArray} {nL : Nat}
theorem k_putI {ci N index x : Nat} {C : String} {T : u_T} {ty : Nat → FieldType} {fs : List (Option (Option Nat))} {ki v : Int} (i k : Nat) (hG : zOK G own cc nL) (hcl : zCl ci C T N ty) (hi : L[i]? = some (x, .inl (ci, fs))) (hk : k < N) (hki : (k : Int) = ki) (hf : fs[k]? = some none) (hlink : zWd (.fieldLink own index (T k).1 (T k).2.1 (T k).2.2.1)) (hfin : (T k).2.2.2 = false) (hty : ty k = .int) (hd : decode cc pc = .ok (.putfield index, 3)) (kk : zW G (zext F L) cells slots (zup I (F.2.1 + i) ki v) lv st (pc + 3)) : zW G (zext F L) cells slots I lv (.int (zI v) :: .ref x :: st) pc := by
  have hil : i < L.length := (List.getElem?_eq_some_iff.mp hi).1
  have at0 := zext_at L F hi (k := F.2.1 + i) rfl
  have h := z_putI (b := F.2.1 + i) hG hcl (by rw [zext_n]; omega) at0.2 k hk hki hf hlink hfin hty hd kk
  rw [at0.1] at h
  exact h
theorem k_getR {ci N index x y t j : Nat} {C : String} {T : u_T} {ty : Nat → FieldType} {fs : List (Option (Option Nat))} {sp : zSpec} (i k : Nat) (hG : zOK G own cc nL) (hcl : zCl ci C T N ty) (hi : L[i]? = some (x, .inl (ci, fs))) (hk : k < N) (hf : fs[k]? = some (some (some t))) (hj : L[j]? = some (y, sp)) (ht : t = F.2.1 + j) (hlink : zWd (.fieldLink own index (T k).1 (T k).2.1 (T k).2.2.1)) (hd : decode cc pc = .ok (.getfield index, 3)) (kk : zW G (zext F L) cells slots I lv (.ref y :: st) (pc + 3)) : zW G (zext F L) cells slots I lv (.ref x :: st) pc := by
  have hil : i < L.length := (List.getElem?_eq_some_iff.mp hi).1
  have at0 := zext_at L F hi (k := F.2.1 + i) rfl
  have at1 := zext_at L F hj ht
  have h := z_getR (b := F.2.1 + i) (t := t) (cells := cells) (slots := slots) (I := I) (lv := lv) (st := st) hG hcl (by rw [zext_n]; omega) at0.2 k hk hf hlink hd (by rw [at1.1]; exact kk)
  rw [at0.1] at h
  exact h
theorem zext_ad {F : zFr} {L : List (Nat × zSpec)} {i y : Nat} {sp : zSpec} (h : L[i]? = some (y, sp)) : (zext F L).1 (F.2.1 + i) = y := (zext_at L F h rfl).1
theorem zMore_1 {x : Nat} {s s' : zSpec} {M : List (Nat × zSpec)} : zMore (zext F [(x, s)]) (zext F ((x, s') :: M)) := by
  refine ⟨by rw [zext_n, zext_n]; show F.2.1 + 1 ≤ F.2.1 + (M.length + 1); omega, fun k hk => ?_⟩
  rw [zext_n] at hk
  have hk : k < F.2.1 + 1 := hk
  by_cases e : k = F.2.1
  · have a := zext_at [(x, s)] F (i := 0) (k := k) rfl e
    have b := zext_at ((x, s') :: M) F (i := 0) (k := k) rfl e
    rw [a.1, b.1]
  · rw [(zext_old _ F (Or.inl (by omega))).1, (zext_old _ F (Or.inl (by omega))).1]
end ZKP

