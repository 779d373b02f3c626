/-! rows that read and write the store -/
def zCl (ci : Nat) (C : String) (T : u_T) (N : Nat) (ty : Nat → FieldType) : Prop := vwCl[ci]? = some (C, T, N) ∧ (∀ w ∈ u_ws C T N, zWd w) ∧ (∀ k, k < N → parseFieldDescriptor (T k).2.2.1 = some (ty k)) ∧ (∀ a, a < N → ∀ b, b < N → a ≠ b → (T a).2.1 ≠ (T b).2.1)
theorem zPt {cs : Nat → ClassId} {F : zFr} {I : zStore} {k : Nat} {e : va_E} (h : k < F.2.1) (he : zE cs F I k = e) : (zws cs F I)[k]? = some (F.1 k, e) := by rw [zws_get h, he]
section ZH
variable {G : zCx} {F : zFr} {cells slots : Nat} {I : zStore} {lv lv' : zLv} {st : List Value} {pc : Nat} {own : String} {cc : ByteArray} {nL : Nat} {ci N index : Nat} {C : String} {T : u_T} {ty : Nat → FieldType} {fs : List (Option (Option Nat))}
theorem z_getI {ki v : Int} (hG : zOK G own cc nL) (hcl : zCl ci C T N ty) {b : Nat} (hb : b < F.2.1) (hlay : F.2.2 b = .inl (ci, fs)) (k : Nat) (hk : k < N) (hki : (k : Int) = ki) (hf : fs[k]? = some none) (hv : I b ki = v) (hlink : zWd (.fieldLink own index (T k).1 (T k).2.1 (T k).2.2.1)) (hd : decode cc pc = .ok (.getfield index, 3)) (kk : zW G F cells slots I lv (.int (zI v) :: st) (pc + 3)) : zW G F cells slots I lv (.ref (F.1 b) :: st) pc := by
  obtain ⟨p, l, e, R, s, m, args, below, meth, c, Q, A, nn, D, cs⟩ := G
  intro hc hs H locs ls hP hD hS hl
  obtain ⟨g1, g2, g3, g4, g5, g6, g7, g8, g9, g10, g11⟩ := hG
  subst hki
  subst hv
  refine va_get (ref := (T k).1) (v := .int (zI (I b (k : Int)))) g1 g2 (Ts := u_ws C T N) (fun w hw => g7.at (hcl.2.1 w hw) _) (fun _ h => h) g3 g6 hP b (zPt hb (zE_obj hlay)) hcl.1 k hk (g7.at hlink _) (fun _ h => h) ?_ hd (kk hc hs H locs ls hP hD hS hl)
  have := zfv_int (ad := F.1) (row := I b) (fs := fs) (j := 0) (k := k) hf
  rwa [Nat.zero_add] at this
theorem z_getR {t : Nat} (hG : zOK G own cc nL) (hcl : zCl ci C T N ty) {b : Nat} (hb : b < F.2.1) (hlay : F.2.2 b = .inl (ci, fs)) (k : Nat) (hk : k < N) (hf : fs[k]? = some (some (some t))) (hlink : zWd (.fieldLink own index (T k).1 (T k).2.1 (T k).2.2.1)) (hd : decode cc pc = .ok (.getfield index, 3)) (kk : zW G F cells slots I lv (.ref (F.1 t) :: st) (pc + 3)) : zW G F cells slots I lv (.ref (F.1 b) :: st) pc := by
  obtain ⟨p, l, e, R, s, m, args, below, meth, c, Q, A, nn, D, cs⟩ := G
  intro hc hs H locs ls hP hD hS hl
  obtain ⟨g1, g2, g3, g4, g5, g6, g7, g8, g9, g10, g11⟩ := hG
  exact va_get (ref := (T k).1) (v := .ref (F.1 t)) g1 g2 (Ts := u_ws C T N) (fun w hw => g7.at (hcl.2.1 w hw) _) (fun _ h => h) g3 g6 hP b (zPt hb (zE_obj hlay)) hcl.1 k hk (g7.at hlink _) (fun _ h => h) (zfv_ref hf) hd (kk hc hs H locs ls hP hD hS hl)
theorem z_getIN {ki v : Int} {host : String} (hG : zOK G own cc nL) (hcl : zCl ci C T N ty) {b : Nat} (hb : b < F.2.1) (hlay : F.2.2 b = .inl (ci, fs)) (k : Nat) (hk : k < N) (hki : (k : Int) = ki) (hf : fs[k]? = some none) (hv : I b ki = v) (hlink : zWd (.fieldLinkNest own index (T k).1 (T k).2.1 (T k).2.2.1 host)) (hd : decode cc pc = .ok (.getfield index, 3)) (kk : zW G F cells slots I lv (.int (zI v) :: st) (pc + 3)) : zW G F cells slots I lv (.ref (F.1 b) :: st) pc := by
  obtain ⟨p, l, e, R, s, m, args, below, meth, c, Q, A, nn, D, cs⟩ := G
  intro hc hs H locs ls hP hD hS hl
  obtain ⟨g1, g2, g3, g4, g5, g6, g7, g8, g9, g10, g11⟩ := hG
  subst hki
  subst hv
  refine va_getN (ref := (T k).1) (host := host) (v := .int (zI (I b (k : Int)))) g1 g2 (Ts := u_ws C T N) (fun w hw => g7.at (hcl.2.1 w hw) _) (fun _ h => h) g3 g6 hP b (zPt hb (zE_obj hlay)) hcl.1 k hk (g7.at hlink _) (fun _ h => h) ?_ hd (kk hc hs H locs ls hP hD hS hl)
  have := zfv_int (ad := F.1) (row := I b) (fs := fs) (j := 0) (k := k) hf
  rwa [Nat.zero_add] at this
theorem z_getRN {t : Nat} {host : String} (hG : zOK G own cc nL) (hcl : zCl ci C T N ty) {b : Nat} (hb : b < F.2.1) (hlay : F.2.2 b = .inl (ci, fs)) (k : Nat) (hk : k < N) (hf : fs[k]? = some (some (some t))) (hlink : zWd (.fieldLinkNest own index (T k).1 (T k).2.1 (T k).2.2.1 host)) (hd : decode cc pc = .ok (.getfield index, 3)) (kk : zW G F cells slots I lv (.ref (F.1 t) :: st) (pc + 3)) : zW G F cells slots I lv (.ref (F.1 b) :: st) pc := by
  obtain ⟨p, l, e, R, s, m, args, below, meth, c, Q, A, nn, D, cs⟩ := G
  intro hc hs H locs ls hP hD hS hl
  obtain ⟨g1, g2, g3, g4, g5, g6, g7, g8, g9, g10, g11⟩ := hG
  exact va_getN (ref := (T k).1) (host := host) (v := .ref (F.1 t)) g1 g2 (Ts := u_ws C T N) (fun w hw => g7.at (hcl.2.1 w hw) _) (fun _ h => h) g3 g6 hP b (zPt hb (zE_obj hlay)) hcl.1 k hk (g7.at hlink _) (fun _ h => h) (zfv_ref hf) hd (kk hc hs H locs ls hP hD hS hl)
theorem zObj_up {cs : Nat → ClassId} {b k : Nat} {ki v : Int} (hb : b < F.2.1) (hlay : F.2.2 b = .inl (ci, fs)) (hki : (k : Int) = ki) (hf : fs[k]? = some none) : (zws cs F I).set b (F.1 b, .inr (ci, (zfv F.1 (I b) 0 fs).set k (.int (zI v)))) = zws cs F (zup I b ki v) := by
  refine zws_up hb ?_
  rw [zE_obj hlay, zfv_put (row := I b) (row' := zup I b ki v b) (v := v) hf]
  · rw [Nat.zero_add, hki]; exact zup_at _ _ _ _
  · intro i hi
    refine zup_i ?_
    rw [← hki]; omega
theorem z_putI {ki v : Int} (hG : zOK G own cc nL) (hcl : zCl ci C T N ty) {b : Nat} (hb : b < F.2.1) (hlay : F.2.2 b = .inl (ci, fs)) (k : Nat) (hk : k < N) (hki : (k : Int) = ki) (hf : fs[k]? = some none) (hlink : zWd (.fieldLink own index (T k).1 (T k).2.1 (T k).2.2.1)) (hfin : (T k).2.2.2 = false) (hty : ty k = .int) (hd : decode cc pc = .ok (.putfield index, 3)) (kk : zW G F cells slots (zup I b ki v) lv st (pc + 3)) : zW G F cells slots I lv (.int (zI v) :: .ref (F.1 b) :: st) pc := by
  obtain ⟨p, l, e, R, s, m, args, below, meth, c, Q, A, nn, D, cs⟩ := G
  intro hc hs H locs ls hP hD hS hl
  obtain ⟨g1, g2, g3, g4, g5, g6, g7, g8, g9, g10, g11⟩ := hG
  refine va_put (ref := (T k).1) g1 g2 (Ts := u_ws C T N) (fun w hw => g7.at (hcl.2.1 w hw) _) (fun _ h => h) ty hcl.2.2.1 hcl.2.2.2 g3 g6 hP hD hS b (zPt hb (zE_obj hlay)) hcl.1 k hk (g7.at hlink _) (fun _ h => h) hfin (by rw [hcl.2.2.1 k hk, hty]) rfl rfl (by rw [zfv_len]; exact (List.getElem?_eq_some_iff.mp hf).1) hd (fun H1 locs1 hP1 hD1 hS1 => ?_)
  rw [zObj_up hb hlay hki hf] at hP1 hD1
  exact kk hc hs H1 locs1 ls hP1 hD1 hS1 hl
theorem z_putZ {ki v : Int} (hG : zOK G own cc nL) (hcl : zCl ci C T N ty) {b : Nat} (hb : b < F.2.1) (hlay : F.2.2 b = .inl (ci, fs)) (k : Nat) (hk : k < N) (hki : (k : Int) = ki) (hf : fs[k]? = some none) (hlink : zWd (.fieldLink own index (T k).1 (T k).2.1 (T k).2.2.1)) (hfin : (T k).2.2.2 = false) (hty : ty k = .boolean) (hv : v = 0 ∨ v = 1) (hd : decode cc pc = .ok (.putfield index, 3)) (kk : zW G F cells slots (zup I b ki v) lv st (pc + 3)) : zW G F cells slots I lv (.int (zI v) :: .ref (F.1 b) :: st) pc := by
  obtain ⟨p, l, e, R, s, m, args, below, meth, c, Q, A, nn, D, cs⟩ := G
  intro hc hs H locs ls hP hD hS hl
  obtain ⟨g1, g2, g3, g4, g5, g6, g7, g8, g9, g10, g11⟩ := hG
  refine va_put (ref := (T k).1) g1 g2 (Ts := u_ws C T N) (fun w hw => g7.at (hcl.2.1 w hw) _) (fun _ h => h) ty hcl.2.2.1 hcl.2.2.2 g3 g6 hP hD hS b (zPt hb (zE_obj hlay)) hcl.1 k hk (g7.at hlink _) (fun _ h => h) hfin (by rw [hcl.2.2.1 k hk, hty]) (by rcases hv with rfl | rfl <;> rfl) (by rcases hv with rfl | rfl <;> rfl) (by rw [zfv_len]; exact (List.getElem?_eq_some_iff.mp hf).1) hd (fun H1 locs1 hP1 hD1 hS1 => ?_)
  rw [zObj_up hb hlay hki hf] at hP1 hD1
  exact kk hc hs H1 locs1 ls hP1 hD1 hS1 hl
theorem z_putIN {ki v : Int} {host : String} (hG : zOK G own cc nL) (hcl : zCl ci C T N ty) {b : Nat} (hb : b < F.2.1) (hlay : F.2.2 b = .inl (ci, fs)) (k : Nat) (hk : k < N) (hki : (k : Int) = ki) (hf : fs[k]? = some none) (hlink : zWd (.fieldLinkNest own index (T k).1 (T k).2.1 (T k).2.2.1 host)) (hfin : (T k).2.2.2 = false) (hty : ty k = .int) (hd : decode cc pc = .ok (.putfield index, 3)) (kk : zW G F cells slots (zup I b ki v) lv st (pc + 3)) : zW G F cells slots I lv (.int (zI v) :: .ref (F.1 b) :: st) pc := by
  obtain ⟨p, l, e, R, s, m, args, below, meth, c, Q, A, nn, D, cs⟩ := G
  intro hc hs H locs ls hP hD hS hl
  obtain ⟨g1, g2, g3, g4, g5, g6, g7, g8, g9, g10, g11⟩ := hG
  refine va_putN (ref := (T k).1) (host := host) g1 g2 (Ts := u_ws C T N) (fun w hw => g7.at (hcl.2.1 w hw) _) (fun _ h => h) ty hcl.2.2.1 hcl.2.2.2 g3 g6 hP hD hS b (zPt hb (zE_obj hlay)) hcl.1 k hk (g7.at hlink _) (fun _ h => h) hfin (by rw [hcl.2.2.1 k hk, hty]) rfl rfl (by rw [zfv_len]; exact (List.getElem?_eq_some_iff.mp hf).1) hd (fun H1 locs1 hP1 hD1 hS1 => ?_)
  rw [zObj_up hb hlay hki hf] at hP1 hD1
  exact kk hc hs H1 locs1 ls hP1 hD1 hS1 hl
/-! arrays -/
theorem zar_i {t : Nat} (h : t ≠ 3) (row : Int → Int) : zar t row = .inl (fun j => zI (row (j : Int))) := by unfold zar; rw [if_neg h]
theorem zar_j (row : Int → Int) : zar 3 row = .inr (.inl (fun j => zJ (row (j : Int)))) := by unfold zar; rw [if_pos rfl]
theorem zArr_up {cs : Nat → ClassId} {b t n : Nat} {i v : Int} {x : Int32} (ht : t ≠ 3) (hb : b < F.2.1) (hlay : F.2.2 b = .inr (.inl (t, n))) (h0 : 0 ≤ i) (h1 : i < 2147483648) (hx : x = zI v) : (zws cs F I).set b (F.1 b, .inl (cs t, n, .inl (upd (fun j => zI (I b (j : Int))) (zI i).toNatClampNeg x))) = zws cs F (zup I b i v) := by
  refine zws_up hb ?_
  rw [zE_arr hlay, zar_i ht]
  congr 4
  funext j
  have hc := zI_clamp h0 h1
  by_cases hj : j = (zI i).toNatClampNeg
  · subst hj
    simp only [upd, if_pos]
    rw [hc, zup_at, hx]
  · simp only [upd, if_neg hj]
    rw [zup_i]
    omega
theorem z_iald {i v : Int} {n : Nat} (hG : zOK G own cc nL) {b : Nat} (hb : b < F.2.1) (hlay : F.2.2 b = .inr (.inl (0, n))) (hn : n ≤ 2147483647) (hi : 0 ≤ i ∧ i < (n : Int)) (hv : I b i = v) (hd : decode cc pc = .ok (.iaload, 1)) (kk : zW G F cells slots I lv (.int (zI v) :: st) (pc + 1)) : zW G F cells slots I lv (.int (zI i) :: .ref (F.1 b) :: st) pc := by
  obtain ⟨p, l, e, R, s, m, args, below, meth, c, Q, A, nn, D, cs⟩ := G
  intro hc hs H locs ls hP hD hS hl
  obtain ⟨g1, g2, g3, g4, g5, g6, g7, g8, g9, g10, g11⟩ := hG
  subst hv
  have hw := kk hc hs H locs ls hP hD hS hl
  have he : zE cs F I b = .inl (cs 0, n, .inl (fun j => zI (I b (j : Int)))) := by rw [zE_arr hlay, zar_i (by decide)]
  refine va_iald g1 g2 g6 hP b 0 (zPt hb he) rfl (zI_in hi.1 hi.2 hn) hd ?_
  rw [zI_clamp hi.1 (by omega)]
  exact hw
theorem z_bald {i v : Int} {n : Nat} (hG : zOK G own cc nL) {b : Nat} (hb : b < F.2.1) (hlay : F.2.2 b = .inr (.inl (1, n))) (hn : n ≤ 2147483647) (hi : 0 ≤ i ∧ i < (n : Int)) (hv : I b i = v) (hd : decode cc pc = .ok (.baload, 1)) (kk : zW G F cells slots I lv (.int (zI v) :: st) (pc + 1)) : zW G F cells slots I lv (.int (zI i) :: .ref (F.1 b) :: st) pc := by
  obtain ⟨p, l, e, R, s, m, args, below, meth, c, Q, A, nn, D, cs⟩ := G
  intro hc hs H locs ls hP hD hS hl
  obtain ⟨g1, g2, g3, g4, g5, g6, g7, g8, g9, g10, g11⟩ := hG
  subst hv
  have hw := kk hc hs H locs ls hP hD hS hl
  have he : zE cs F I b = .inl (cs 1, n, .inl (fun j => zI (I b (j : Int)))) := by rw [zE_arr hlay, zar_i (by decide)]
  refine va_bald g1 g2 g6 hP b 1 (zPt hb he) rfl (zI_in hi.1 hi.2 hn) hd ?_
  rw [zI_clamp hi.1 (by omega)]
  exact hw
theorem z_zald {i v : Int} {n : Nat} (hG : zOK G own cc nL) {b : Nat} (hb : b < F.2.1) (hlay : F.2.2 b = .inr (.inl (2, n))) (hn : n ≤ 2147483647) (hi : 0 ≤ i ∧ i < (n : Int)) (hv : I b i = v) (hd : decode cc pc = .ok (.baload, 1)) (kk : zW G F cells slots I lv (.int (zI v) :: st) (pc + 1)) : zW G F cells slots I lv (.int (zI i) :: .ref (F.1 b) :: st) pc := by
  obtain ⟨p, l, e, R, s, m, args, below, meth, c, Q, A, nn, D, cs⟩ := G
  intro hc hs H locs ls hP hD hS hl
  obtain ⟨g1, g2, g3, g4, g5, g6, g7, g8, g9, g10, g11⟩ := hG
  subst hv
  have hw := kk hc hs H locs ls hP hD hS hl
  have he : zE cs F I b = .inl (cs 2, n, .inl (fun j => zI (I b (j : Int)))) := by rw [zE_arr hlay, zar_i (by decide)]
  refine va_zald g1 g2 g6 hP b 2 (zPt hb he) rfl (zI_in hi.1 hi.2 hn) hd ?_
  rw [zI_clamp hi.1 (by omega)]
  exact hw
theorem z_iast {i v : Int} {n : Nat} (hG : zOK G own cc nL) {b : Nat} (hb : b < F.2.1) (hlay : F.2.2 b = .inr (.inl (0, n))) (hn : n ≤ 2147483647) (hi : 0 ≤ i ∧ i < (n : Int)) (hd : decode cc pc = .ok (.iastore, 1)) (kk : zW G F cells slots (zup I b i v) lv st (pc + 1)) : zW G F cells slots I lv (.int (zI v) :: .int (zI i) :: .ref (F.1 b) :: st) pc := by
  obtain ⟨p, l, e, R, s, m, args, below, meth, c, Q, A, nn, D, cs⟩ := G
  intro hc hs H locs ls hP hD hS hl
  obtain ⟨g1, g2, g3, g4, g5, g6, g7, g8, g9, g10, g11⟩ := hG
  have he : zE cs F I b = .inl (cs 0, n, .inl (fun j => zI (I b (j : Int)))) := by rw [zE_arr hlay, zar_i (by decide)]
  refine va_iast g1 g2 g6 hP hD hS b 0 (zPt hb he) rfl (zI_in hi.1 hi.2 hn) hd (fun H1 locs1 hP1 hD1 hS1 => ?_)
  rw [zArr_up (by decide) hb hlay hi.1 (by omega) rfl] at hP1 hD1
  exact kk hc hs H1 locs1 ls hP1 hD1 hS1 hl
theorem z_bast {i v : Int} {n : Nat} (hG : zOK G own cc nL) {b : Nat} (hb : b < F.2.1) (hlay : F.2.2 b = .inr (.inl (1, n))) (hn : n ≤ 2147483647) (hi : 0 ≤ i ∧ i < (n : Int)) (hv : -128 ≤ v ∧ v < 128) (hd : decode cc pc = .ok (.bastore, 1)) (kk : zW G F cells slots (zup I b i v) lv st (pc + 1)) : zW G F cells slots I lv (.int (zI v) :: .int (zI i) :: .ref (F.1 b) :: st) pc := by
  obtain ⟨p, l, e, R, s, m, args, below, meth, c, Q, A, nn, D, cs⟩ := G
  intro hc hs H locs ls hP hD hS hl
  obtain ⟨g1, g2, g3, g4, g5, g6, g7, g8, g9, g10, g11⟩ := hG
  have he : zE cs F I b = .inl (cs 1, n, .inl (fun j => zI (I b (j : Int)))) := by rw [zE_arr hlay, zar_i (by decide)]
  refine va_bast g1 g2 g6 hP hD hS b 1 (zPt hb he) rfl (zI_in hi.1 hi.2 hn) hd (fun H1 locs1 hP1 hD1 hS1 => ?_)
  rw [zArr_up (by decide) hb hlay hi.1 (by omega) (by rw [vp_nar_byte]; exact zI_byte hv.1 hv.2)] at hP1 hD1
  exact kk hc hs H1 locs1 ls hP1 hD1 hS1 hl
theorem z_zast {i v : Int} {n : Nat} (hG : zOK G own cc nL) {b : Nat} (hb : b < F.2.1) (hlay : F.2.2 b = .inr (.inl (2, n))) (hn : n ≤ 2147483647) (hi : 0 ≤ i ∧ i < (n : Int)) (hv : v = 0 ∨ v = 1) (hd : decode cc pc = .ok (.bastore, 1)) (kk : zW G F cells slots (zup I b i v) lv st (pc + 1)) : zW G F cells slots I lv (.int (zI v) :: .int (zI i) :: .ref (F.1 b) :: st) pc := by
  obtain ⟨p, l, e, R, s, m, args, below, meth, c, Q, A, nn, D, cs⟩ := G
  intro hc hs H locs ls hP hD hS hl
  obtain ⟨g1, g2, g3, g4, g5, g6, g7, g8, g9, g10, g11⟩ := hG
  have he : zE cs F I b = .inl (cs 2, n, .inl (fun j => zI (I b (j : Int)))) := by rw [zE_arr hlay, zar_i (by decide)]
  refine va_zast g1 g2 g6 hP hD hS b 2 (zPt hb he) rfl (zI_in hi.1 hi.2 hn) hd (fun H1 locs1 hP1 hD1 hS1 => ?_)
  have hz : vp_nar .boolean (zI v) = zI v := by rcases hv with rfl | rfl <;> decide
  rw [zArr_up (by decide) hb hlay hi.1 (by omega) hz] at hP1 hD1
  exact kk hc hs H1 locs1 ls hP1 hD1 hS1 hl
theorem z_aald {i : Int} {r : List (Option Nat)} {t j : Nat} (hG : zOK G own cc nL) {b : Nat} (hb : b < F.2.1) (hlay : F.2.2 b = .inr (.inr r)) (hn : r.length ≤ 2147483647) (hj : (j : Int) = i) (hr : r[j]? = some (some t)) (hd : decode cc pc = .ok (.aaload, 1)) (kk : zW G F cells slots I lv (.ref (F.1 t) :: st) (pc + 1)) : zW G F cells slots I lv (.int (zI i) :: .ref (F.1 b) :: st) pc := by
  obtain ⟨p, l, e, R, s, m, args, below, meth, c, Q, A, nn, D, cs⟩ := G
  intro hc hs H locs ls hP hD hS hl
  obtain ⟨g1, g2, g3, g4, g5, g6, g7, g8, g9, g10, g11⟩ := hG
  have hw := kk hc hs H locs ls hP hD hS hl
  have hlt : j < r.length := (List.getElem?_eq_some_iff.mp hr).1
  refine va_aldq g1 g2 g6 hP b 4 (zPt hb (zE_row hlay)) rfl (zI_in (by omega) (by omega) hn) hd ?_
  have e1 : (zI i).toNatClampNeg = j := by
    have := zI_clamp (z := i) (by omega) (by omega)
    omega
  rw [e1]
  have e2 : r.getD j none = some t := by rw [List.getD_eq_getElem?_getD, hr]; rfl
  rw [e2]
  exact hw
end ZH
theorem va_tabsA {w : Cond} {U : State} {g : JFrame} {mk : MethodId} {a : Array Value} (h : w.before #[] U = true) (hs : zst w = true) : w.before #[] (U.calling g mk a) = true := zst_warm hs (s := U) (U := U.calling g mk a) (State.WarmedH.refl U) h
