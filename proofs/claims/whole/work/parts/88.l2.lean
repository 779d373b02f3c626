/-! the law's own rows -/
def zsc (xs : Nat → Int32) (j : Int) : Int := (xs j.toNat).toInt
theorem zsc_rg (xs : Nat → Int32) (j : Int) : -2147483648 ≤ zsc xs j ∧ zsc xs j < 2147483648 := zI_rng _
def zScr (G : zCx) (b L : Nat) (xs : Nat → Int32) : Prop := match G with
  | (p, l, e, R, s, m, args, below, meth, c, Q, A, n, D, cs) => va_X b L xs s s.heap ∧ b < s.heap.size ∧ ¬ A b
section ZLR
variable {G : zCx} {F : zFr} {cells slots : Nat} {I : zStore} {lv lv' : zLv} {st : List Value} {pc : Nat} {own : String} {cc : ByteArray} {nL b L : Nat} {xs : Nat → Int32}
theorem z_sal {i : Int} (hG : zOK G own cc nL) (hS0 : zScr G b L xs) (hL : L ≤ 2048) (hi : 0 ≤ i ∧ i < L) (hd : decode cc pc = .ok (.iaload, 1)) (k : zW G F cells slots I lv (.int (zI (zsc xs i)) :: st) (pc + 1)) : zW G F cells slots I lv (.int (zI i) :: .ref b :: st) pc := by
  obtain ⟨p, l, e, R, s, m, args, below, meth, c, Q, A, nn, D, cs⟩ := G
  intro hc hs H locs ls hP hD hS hl
  have hw := k hc hs H locs ls hP hD hS hl
  refine va_sld hG.1 hG.2.1 hS0.1 hS0.2.1 hS0.2.2 hS (zI_in hi.1 hi.2 (by omega)) hd ?_
  have e1 : (zI i).toNatClampNeg = i.toNat := by
    have := zI_clamp (z := i) hi.1 (by omega)
    omega
  rw [e1]
  unfold zsc at hw
  rw [zI_of] at hw
  exact hw
theorem z_slen (hG : zOK G own cc nL) (hS0 : zScr G b L xs) (hd : decode cc pc = .ok (.arraylength, 1)) (k : zW G F cells slots I lv (.int (zI (L : Int)) :: st) (pc + 1)) : zW G F cells slots I lv (.ref b :: st) pc := by
  obtain ⟨p, l, e, R, s, m, args, below, meth, c, Q, A, nn, D, cs⟩ := G
  intro hc hs H locs ls hP hD hS hl
  have hw := k hc hs H locs ls hP hD hS hl
  refine va_slen hG.1 hG.2.1 hS0.1 hS0.2.1 hS0.2.2 hS hd ?_
  have e1 : Int32.ofNat L = zI (L : Int) := (Int32.ofInt_eq_ofNat (n := L)).symm
  rw [e1]
  exact hw
theorem z_lshl {x : Int64} {y : Int32} (hG : zOK G own cc nL) (hd : decode cc pc = .ok (.lshl, 1)) (k : zW G F cells slots I lv (.long (x <<< (y.toInt64 &&& 63)) :: st) (pc + 1)) : zW G F cells slots I lv (.int y :: .long x :: st) pc := by
  obtain ⟨p, l, e, R, s, m, args, below, meth, c, Q, A, n, D, cs⟩ := G
  intro hc hs H locs ls hP hD hS hl
  exact lv_lshl hG.1 hG.2.1 hd rfl (k hc hs H locs ls hP hD hS hl)
theorem z_lor {x y : Int64} (hG : zOK G own cc nL) (hd : decode cc pc = .ok (.lor, 1)) (k : zW G F cells slots I lv (.long (x ||| y) :: st) (pc + 1)) : zW G F cells slots I lv (.long y :: .long x :: st) pc := by
  obtain ⟨p, l, e, R, s, m, args, below, meth, c, Q, A, n, D, cs⟩ := G
  intro hc hs H locs ls hP hD hS hl
  exact lv_lor hG.1 hG.2.1 hd (k hc hs H locs ls hP hD hS hl)
theorem z_lcmpe {x : Int64} (hG : zOK G own cc nL) (hd : decode cc pc = .ok (.lcmp, 1)) (k : zW G F cells slots I lv (.int (zI 0) :: st) (pc + 1)) : zW G F cells slots I lv (.long x :: .long x :: st) pc := by
  obtain ⟨p, l, e, R, s, m, args, below, meth, c, Q, A, n, D, cs⟩ := G
  intro hc hs H locs ls hP hD hS hl
  refine W.lcmp hG.1 hG.2.1 hd ?_
  have e1 : lg_cmp x x = zI 0 := by
    unfold lg_cmp
    simp
    try rfl
  rw [e1]
  exact k hc hs H locs ls hP hD hS hl
theorem z_dcmpR {x y : UInt64} {op : CmpOp} (hG : zOK G own cc nL) (hd : decode cc pc = .ok (.dcmp op, 1)) (k : zW G F cells slots I lv (.int (Op.cmpValue (FP.dcmp x y) op) :: st) (pc + 1)) : zW G F cells slots I lv (.double y :: .double x :: st) pc := by
  obtain ⟨p, l, e, R, s, m, args, below, meth, c, Q, A, n, D, cs⟩ := G
  intro hc hs H locs ls hP hD hS hl
  exact lv_dcmp hG.1 hG.2.1 hd (k hc hs H locs ls hP hD hS hl)
theorem z_dstore {i : Nat} {x : UInt64} (hG : zOK G own cc nL) (hd : decode cc pc = .ok (.dstore i, 2)) (hn : i + 1 < nL) (hl' : (i, Value.double x) :: lv.filter (fun q => !(q.1 == i) && (!(q.1 == i + 1) && !(q.1 + 1 == i && q.2.category == 2))) = lv') (k : zW G F cells slots I lv' st (pc + 2)) : zW G F cells slots I lv (.double x :: st) pc := by
  obtain ⟨p, l, e, R, s, m, args, below, meth, c, Q, A, nn, D, cs⟩ := G
  intro hc hs H locs ls hP hD hS hl
  have hn2 : i + 1 < nn := by have := hG.2.2.2.2.1; omega
  exact lv_dstore hG.1 hG.2.1 hd hl hn2 hl' (fun ls2 hl2 => k hc hs H locs ls2 hP hD hS hl2)
theorem z_dload {i : Nat} {x : UInt64} (j : Nat) (hG : zOK G own cc nL) (hd : decode cc pc = .ok (.dload i, 2)) (hk : lv[j]? = some (i, .double x)) (k : zW G F cells slots I lv (.double x :: st) (pc + 2)) : zW G F cells slots I lv st pc := by
  obtain ⟨p, l, e, R, s, m, args, below, meth, c, Q, A, n, D, cs⟩ := G
  intro hc hs H locs ls hP hD hS hl
  exact lv_dload hG.1 hG.2.1 hd (lv_at hl j hk) (k hc hs H locs ls hP hD hS hl)
theorem z_tabIn {x dflt lo hi : Int} {offs : Array Int} {len : Nat} {off : Int} {tgt : Nat} (hG : zOK G own cc nL) (hd : decode cc pc = .ok (.tableswitch dflt lo hi offs, len)) (hx : -2147483648 ≤ x ∧ x < 2147483648) (h1 : ¬ x < lo) (h2 : ¬ hi < x) (ho : offs[(x - lo).toNat]? = some off) (ht : (pc : Int) + off = (tgt : Int)) (k : zW G F cells slots I lv st tgt) : zW G F cells slots I lv (.int (zI x) :: st) pc := by
  obtain ⟨p, l, e, R, s, m, args, below, meth, c, Q, A, n, D, cs⟩ := G
  intro hc hs H locs ls hP hD hS hl
  exact lv_tableIn hG.1 hG.2.1 hd (by rw [zI_toInt hx.1 hx.2]; exact h1) (by rw [zI_toInt hx.1 hx.2]; exact h2) (by rw [zI_toInt hx.1 hx.2]; exact ho) ht (k hc hs H locs ls hP hD hS hl)
theorem z_tabOut {x dflt lo hi : Int} {offs : Array Int} {len tgt : Nat} (hG : zOK G own cc nL) (hd : decode cc pc = .ok (.tableswitch dflt lo hi offs, len)) (hx : -2147483648 ≤ x ∧ x < 2147483648) (h : x < lo ∨ hi < x) (ht : (pc : Int) + dflt = (tgt : Int)) (k : zW G F cells slots I lv st tgt) : zW G F cells slots I lv (.int (zI x) :: st) pc := by
  obtain ⟨p, l, e, R, s, m, args, below, meth, c, Q, A, n, D, cs⟩ := G
  intro hc hs H locs ls hP hD hS hl
  exact lv_tableOut hG.1 hG.2.1 hd (by rw [zI_toInt hx.1 hx.2]; exact h) ht (k hc hs H locs ls hP hD hS hl)
end ZLR
