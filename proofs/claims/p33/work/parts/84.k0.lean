/-! constructors: a frame that grows by a list of cells -/
def zext : zFr → List (Nat × zSpec) → zFr
  | F, [] => F
  | F, q :: L => zext (zgrow F q.1 q.2) L
theorem zext_n : ∀ (L : List (Nat × zSpec)) (F : zFr), (zext F L).2.1 = F.2.1 + L.length
  | [], F => rfl
  | q :: L, F => by
    show (zext (zgrow F q.1 q.2) L).2.1 = _
    rw [zext_n L]
    show F.2.1 + 1 + L.length = F.2.1 + (L.length + 1)
    omega
theorem zext_app : ∀ (L : List (Nat × zSpec)) (F : zFr) (M : List (Nat × zSpec)), zext F (L ++ M) = zext (zext F L) M
  | [], F, M => rfl
  | q :: L, F, M => zext_app L (zgrow F q.1 q.2) M
theorem zext_old : ∀ (L : List (Nat × zSpec)) (F : zFr) {k : Nat}, (k < F.2.1 ∨ F.2.1 + L.length ≤ k) → (zext F L).1 k = F.1 k ∧ (zext F L).2.2 k = F.2.2 k
  | [], F, k, _ => ⟨rfl, rfl⟩
  | q :: L, F, k, h => by
    have h := (show k < F.2.1 ∨ F.2.1 + (L.length + 1) ≤ k from h)
    have ih := zext_old L (zgrow F q.1 q.2) (k := k) (by
      show k < F.2.1 + 1 ∨ F.2.1 + 1 + L.length ≤ k
      omega)
    show (zext (zgrow F q.1 q.2) L).1 k = _ ∧ (zext (zgrow F q.1 q.2) L).2.2 k = _
    rw [ih.1, ih.2]
    exact ⟨if_neg (by omega), if_neg (by omega)⟩
theorem zext_at : ∀ (L : List (Nat × zSpec)) (F : zFr) {i k : Nat} {q : Nat × zSpec}, L[i]? = some q → k = F.2.1 + i → (zext F L).1 k = q.1 ∧ (zext F L).2.2 k = q.2
  | [], F, i, k, q, h, _ => by simp at h
  | q0 :: L, F, 0, k, q, h, hk => by
    have e : q0 = q := by simpa using h
    subst e
    have o := zext_old L (zgrow F q0.1 q0.2) (k := k) (by
      show k < F.2.1 + 1 ∨ F.2.1 + 1 + L.length ≤ k
      omega)
    show (zext (zgrow F q0.1 q0.2) L).1 k = _ ∧ (zext (zgrow F q0.1 q0.2) L).2.2 k = _
    rw [o.1, o.2]
    exact ⟨if_pos (by omega), if_pos (by omega)⟩
  | q0 :: L, F, i + 1, k, q, h, hk => zext_at L (zgrow F q0.1 q0.2) (i := i) (by simpa using h) (by
      show k = F.2.1 + 1 + i
      omega)
def zset (F : zFr) (b : Nat) (sp : zSpec) : zFr := (F.1, F.2.1, fun j => if j = b then sp else F.2.2 j)
theorem zset_ext {F : zFr} {L : List (Nat × zSpec)} {i b x : Nat} {sp sp' : zSpec} (h : L[i]? = some (x, sp)) (hb : b = F.2.1 + i) : zset (zext F L) b sp' = zext F (L.set i (x, sp')) := by
  have hi : i < L.length := (List.getElem?_eq_some_iff.mp h).1
  have e2 : (zext F (L.set i (x, sp'))).2.1 = (zext F L).2.1 := by rw [zext_n, zext_n, List.length_set]
  have key : ∀ k, (zext F (L.set i (x, sp'))).1 k = (zext F L).1 k ∧ (zext F (L.set i (x, sp'))).2.2 k = if k = b then sp' else (zext F L).2.2 k := fun k => by
    by_cases hk : k < F.2.1 ∨ F.2.1 + L.length ≤ k
    · have a := zext_old L F hk
      have c := zext_old (L.set i (x, sp')) F (k := k) (by rw [List.length_set]; exact hk)
      rw [a.1, a.2, c.1, c.2, if_neg (by omega)]
      exact ⟨rfl, rfl⟩
    · obtain ⟨j, hj, hj2⟩ : ∃ j, k = F.2.1 + j ∧ j < L.length := ⟨k - F.2.1, by omega, by omega⟩
      obtain ⟨q, hq⟩ : ∃ q, L[j]? = some q := ⟨L[j], List.getElem?_eq_getElem hj2⟩
      have a := zext_at L F hq hj
      by_cases e : j = i
      · subst e
        have hq2 : (L.set j (x, sp'))[j]? = some (x, sp') := by
          rw [List.getElem?_set]
          simp [hi]
        have c := zext_at _ F hq2 hj
        rw [h] at hq
        cases hq
        rw [a.1, c.1, c.2, if_pos (by omega)]
        exact ⟨rfl, rfl⟩
      · have hq2 : (L.set i (x, sp'))[j]? = some q := by
          rw [List.getElem?_set, if_neg (fun r => e r.symm)]
          exact hq
        have c := zext_at _ F hq2 hj
        rw [a.1, a.2, c.1, c.2, if_neg (by omega)]
        exact ⟨rfl, rfl⟩
  show ((zext F L).1, (zext F L).2.1, fun j => if j = b then sp' else (zext F L).2.2 j) = zext F (L.set i (x, sp'))
  rw [← e2]
  refine Prod.ext (funext fun k => (key k).1.symm) (Prod.ext rfl (funext fun k => (key k).2.symm))
theorem zWf_grow {F : zFr} {a : Nat} {sp : zSpec} (h : zWf F) (hs : ∀ t, zrefs sp t → t < F.2.1 + 1) : zWf (zgrow F a sp) := fun k t hk ht => by
  show t < F.2.1 + 1
  by_cases e : k = F.2.1
  · subst e
    rw [zgrow_spn] at ht
    exact hs t ht
  · have hk2 : k < F.2.1 := by
      have : k < F.2.1 + 1 := hk
      omega
    rw [zgrow_sp hk2] at ht
    have := h k t hk2 ht
    omega
theorem zWf_set {F : zFr} {b : Nat} {sp : zSpec} (h : zWf F) (hs : ∀ t, zrefs sp t → t < F.2.1) : zWf (zset F b sp) := fun k t hk ht => by
  show t < F.2.1
  have ht : zrefs (if k = b then sp else F.2.2 k) t := ht
  by_cases e : k = b
  · rw [if_pos e] at ht
    exact hs t ht
  · rw [if_neg e] at ht
    exact h k t hk ht
theorem zfv_set {ad : Nat → Nat} {row : Int → Int} {t : Nat} : ∀ {fs : List (Option (Option Nat))} {j k : Nat}, (zfv ad row j fs).set k (.ref (ad t)) = zfv ad row j (fs.set k (some (some t)))
  | [], _, _ => rfl
  | x :: r, j, 0 => by
    rcases x with _ | _ | t9 <;> rfl
  | x :: r, j, k + 1 => by
    have h1 := zfv_set (ad := ad) (row := row) (t := t) (fs := r) (j := j + 1) (k := k)
    rcases x with _ | _ | t9 <;> (simp only [zfv, List.set_cons_succ]; rw [h1])
theorem zws_spec {cs : Nat → ClassId} {F : zFr} {I : zStore} {b : Nat} {sp : zSpec} {e : va_E} (hb : b < F.2.1) (he : zE cs (zset F b sp) I b = e) : (zws cs F I).set b (F.1 b, e) = zws cs (zset F b sp) I := by
  apply List.ext_getElem?
  intro j
  rw [List.getElem?_set]
  by_cases hj : b = j
  · subst hj
    rw [if_pos rfl, if_pos (by rw [zws_len]; exact hb), zws_get (F := zset F b sp) hb, he]
    rfl
  · rw [if_neg hj]
    by_cases hn : j < F.2.1
    · rw [zws_get hn, zws_get (F := zset F b sp) hn]
      have : zE cs (zset F b sp) I j = zE cs F I j := zE_ad (F := F) (F' := zset F b sp) (if_neg (fun q => hj q.symm)) (fun t _ => rfl)
      rw [this]
      rfl
    · rw [List.getElem?_eq_none (by rw [zws_len]; omega), List.getElem?_eq_none (by rw [zws_len]; exact Nat.not_lt.mp hn)]
theorem zzr_z {I : zStore} {k : Nat} (h : I k = fun _ => 0) : zzr I k = I := by
  funext a b
  unfold zzr
  by_cases e : a = k
  · rw [if_pos e, e, h]
  · rw [if_neg e]
def zIni (G : zCx) : Prop := match G with
  | (p, l, e, R, s, m, args, below, meth, c, Q, A, n, D, cs) => meth.name = "<init>"
section ZKR
variable {G : zCx} {F : zFr} {L : List (Nat × zSpec)} {cells slots : Nat} {I : zStore} {lv : zLv} {st : List Value} {pc : Nat} {own : String} {cc : ByteArray} {nL : Nat}
theorem zext_grow {a : Nat} {sp : zSpec} : zgrow (zext F L) a sp = zext F (L ++ [(a, sp)]) := (zext_app L F [(a, sp)]).symm
theorem k_newI {rm : Room} {N : Nat} (hG : zOK G own cc nL) (hRm : zRoom G rm) (hW : zWf (zext F L)) (hz : I (F.2.1 + L.length) = fun _ => 0) (harr : zWd (.arrayClass .int)) (hN : N ≤ 100000) (hce : cells + 1 ≤ rm.cells) (hsl : slots + N ≤ rm.slots) (hd : decode cc pc = .ok (.newarray .int, 2)) (kk : ∀ a, zWf (zext F (L ++ [(a, .inr (.inl (0, N)))])) → zW G (zext F (L ++ [(a, .inr (.inl (0, N)))])) (cells + 1) (slots + N) I lv (.ref a :: st) (pc + 2)) : zW G (zext F L) cells slots I lv (.int (zI (N : Int)) :: st) pc :=
  z_newI hG hRm hW harr hN hce hsl hd fun a => by
    rw [zext_n, zzr_z hz, zext_grow]
    exact kk a (by rw [← zext_grow]; exact zWf_grow hW (fun t ht => ht.elim))
theorem k_newB {rm : Room} {N : Nat} (hG : zOK G own cc nL) (hRm : zRoom G rm) (hW : zWf (zext F L)) (hz : I (F.2.1 + L.length) = fun _ => 0) (harr : zWd (.arrayClass .byte)) (hN : N ≤ 100000) (hce : cells + 1 ≤ rm.cells) (hsl : slots + N ≤ rm.slots) (hd : decode cc pc = .ok (.newarray .byte, 2)) (kk : ∀ a, zWf (zext F (L ++ [(a, .inr (.inl (1, N)))])) → zW G (zext F (L ++ [(a, .inr (.inl (1, N)))])) (cells + 1) (slots + N) I lv (.ref a :: st) (pc + 2)) : zW G (zext F L) cells slots I lv (.int (zI (N : Int)) :: st) pc :=
  z_newB hG hRm hW harr hN hce hsl hd fun a => by
    rw [zext_n, zzr_z hz, zext_grow]
    exact kk a (by rw [← zext_grow]; exact zWf_grow hW (fun t ht => ht.elim))
theorem k_newZ {rm : Room} {N : Nat} (hG : zOK G own cc nL) (hRm : zRoom G rm) (hW : zWf (zext F L)) (hz : I (F.2.1 + L.length) = fun _ => 0) (harr : zWd (.arrayClass .boolean)) (hN : N ≤ 100000) (hce : cells + 1 ≤ rm.cells) (hsl : slots + N ≤ rm.slots) (hd : decode cc pc = .ok (.newarray .boolean, 2)) (kk : ∀ a, zWf (zext F (L ++ [(a, .inr (.inl (2, N)))])) → zW G (zext F (L ++ [(a, .inr (.inl (2, N)))])) (cells + 1) (slots + N) I lv (.ref a :: st) (pc + 2)) : zW G (zext F L) cells slots I lv (.int (zI (N : Int)) :: st) pc :=
  z_newZ hG hRm hW harr hN hce hsl hd fun a => by
    rw [zext_n, zzr_z hz, zext_grow]
    exact kk a (by rw [← zext_grow]; exact zWf_grow hW (fun t ht => ht.elim))
/-- a final field gets its cell -/
theorem k_putR {ci N index : Nat} {C : String} {T : u_T} {ty : Nat → FieldType} {fs : List (Option (Option Nat))} {x y t : Nat} (i k : Nat) (hG : zOK G own cc nL) (hI : zIni G) (hW : zWf (zext F L)) (hcl : zCl ci C T N ty) (hi : L[i]? = some (x, .inl (ci, fs))) (ht : t < F.2.1 + L.length) (hy : (zext F L).1 t = y) (hk : k < N) (hf : k < fs.length) (hlink : zWd (.fieldLink own index (T k).1 (T k).2.1 (T k).2.2.1)) (hfin : (T k).2.2.2 = true) (hdecl : (T k).1 = own) (hn : narrow (ty k) (.ref y) = .ref y) (hfit : fits (ty k) (.ref y) = true) (hd : decode cc pc = .ok (.putfield index, 3))
    (kk : zWf (zext F (L.set i (x, .inl (ci, fs.set k (some (some t)))))) → zW G (zext F (L.set i (x, .inl (ci, fs.set k (some (some t)))))) cells slots I lv st (pc + 3)) : zW G (zext F L) cells slots I lv (.ref y :: .ref x :: st) pc := by
  have hil : i < L.length := (List.getElem?_eq_some_iff.mp hi).1
  have at0 := zext_at L F hi (k := F.2.1 + i) rfl
  have hb : F.2.1 + i < (zext F L).2.1 := by rw [zext_n]; omega
  have hW2 : zWf (zset (zext F L) (F.2.1 + i) (.inl (ci, fs.set k (some (some t))))) := zWf_set hW fun t9 h9 => by
    have h9 : some (some t9) ∈ fs.set k (some (some t)) := h9
    rcases List.mem_or_eq_of_mem_set h9 with q | q
    · exact hW (F.2.1 + i) t9 hb (by rw [at0.2]; exact q)
    · cases q
      rw [zext_n]
      exact ht
  have hk2 := kk (by rw [← zset_ext hi rfl]; exact hW2)
  rw [← zset_ext hi rfl] at hk2
  obtain ⟨p, l, e, R, s, m, args, below, meth, c, Q, A, nn, D, cs⟩ := G
  intro hc hs H locs ls hP hD hS hl
  obtain ⟨g1, g2, g3, g4, g5, g6, g7, g8, g9, g10, g11⟩ := hG
  have hpt : (zws cs (zext F L) I)[F.2.1 + i]? = some (x, .inr (ci, zfv (zext F L).1 (I (F.2.1 + i)) 0 fs)) := by
    rw [zws_get hb, zE_obj at0.2, at0.1]
  refine va_putF (ref := (T k).1) (v := .ref y) g1 g2 (Ts := u_ws C T N) (fun w hw => g7.at (hcl.2.1 w hw) _) (fun _ h => h) ty hcl.2.2.1 hcl.2.2.2 g3 g6 hP hD hS (F.2.1 + i) hpt hcl.1 k hk (g7.at hlink _) (fun _ h => h) hfin hI hdecl (hcl.2.2.1 k hk) hn hfit (by rw [zfv_len]; exact hf) hd (fun H1 locs1 hP1 hD1 hS1 => ?_)
  have e1 : (zws cs (zext F L) I).set (F.2.1 + i) (x, .inr (ci, (zfv (zext F L).1 (I (F.2.1 + i)) 0 fs).set k (.ref y))) = zws cs (zset (zext F L) (F.2.1 + i) (.inl (ci, fs.set k (some (some t))))) I := by
    have h9 := zws_spec (cs := cs) (F := zext F L) (I := I) (b := F.2.1 + i) (sp := .inl (ci, fs.set k (some (some t)))) hb rfl
    rw [zE_obj (F := zset (zext F L) (F.2.1 + i) (.inl (ci, fs.set k (some (some t))))) (if_pos rfl)] at h9
    rw [← h9, at0.1, ← hy, zfv_set]
    rfl
  rw [e1] at hP1 hD1
  exact hk2 hc hs H1 locs1 ls hP1 hD1 hS1 hl
end ZKR

