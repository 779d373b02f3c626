/-! longs as they are -/
def zushr (x : Int64) (y : Int) : Int64 := (x.toUInt64 >>> ((zI y).toInt64.toUInt64 &&& Int64.toUInt64 63)).toInt64
def zl2i (x : Int64) : Int := x.toInt32.toInt
def zand (a b : Int) : Int := (zI a &&& zI b).toInt
section ZLO
variable {G : zCx} {F : zFr} {cells slots : Nat} {I : zStore} {lv lv' : zLv} {st : List Value} {pc : Nat} {own : String} {cc : ByteArray} {nL : Nat}
theorem z_lushr {x : Int64} {y : Int} (hG : zOK G own cc nL) (hd : decode cc pc = .ok (.lushr, 1)) (k : zW G F cells slots I lv (.long (zushr x y) :: st) (pc + 1)) : zW G F cells slots I lv (.int (zI y) :: .long x :: st) pc := by
  obtain ⟨p, l, e, R, s, m, args, below, meth, c, Q, A, n, D, cs⟩ := G
  intro hc hs H locs ls hP hD hS hl
  exact lv_lushr hG.1 hG.2.1 hd rfl (k hc hs H locs ls hP hD hS hl)
theorem z_l2i {x : Int64} (hG : zOK G own cc nL) (hd : decode cc pc = .ok (.l2i, 1)) (k : zW G F cells slots I lv (.int (zI (zl2i x)) :: st) (pc + 1)) : zW G F cells slots I lv (.long x :: st) pc := by
  obtain ⟨p, l, e, R, s, m, args, below, meth, c, Q, A, n, D, cs⟩ := G
  intro hc hs H locs ls hP hD hS hl
  exact lv_l2i hG.1 hG.2.1 hd (zI_of _).symm (k hc hs H locs ls hP hD hS hl)
theorem z_iand {a b : Int} (hG : zOK G own cc nL) (hd : decode cc pc = .ok (.iand, 1)) (k : zW G F cells slots I lv (.int (zI (zand a b)) :: st) (pc + 1)) : zW G F cells slots I lv (.int (zI b) :: .int (zI a) :: st) pc := by
  obtain ⟨p, l, e, R, s, m, args, below, meth, c, Q, A, n, D, cs⟩ := G
  intro hc hs H locs ls hP hD hS hl
  have h := k hc hs H locs ls hP hD hS hl
  unfold zand at h
  rw [zI_of] at h
  exact lv_iand hG.1 hG.2.1 hd h
end ZLO
theorem zand_255 (a : Int) : 0 ≤ zand a 255 ∧ zand a 255 ≤ 255 := by
  unfold zand
  have h : (zI a &&& zI 255).toBitVec.toNat ≤ 255 := by
    rw [Int32.toBitVec_and, BitVec.toNat_and]
    exact Nat.and_le_right
  have h2 : (zI a &&& zI 255).toInt = ((zI a &&& zI 255).toBitVec.toNat : Int) := by
    show (zI a &&& zI 255).toBitVec.toInt = _
    exact BitVec.toInt_eq_toNat_of_lt (by omega)
  omega
/-- the byte i of the eight -/
def zby (x : Int64) (i : Int) : Int := zand (zl2i (zushr x (56 - 8 * i))) 255
theorem zby_bd {x : Int64} {i : Int} : 0 ≤ zby x i ∧ zby x i ≤ 255 := zand_255 _
abbrev rm_X3_byteOf : Room := { frames := 0, cells := 0, slots := 0, locals := 0 }
set_option maxRecDepth 100000 in
set_option maxHeartbeats 4000000 in
theorem s_X3_byteOf {G : zCx} {F : zFr} {I : zStore} {post : Option Value → zStore → Prop}{x : Int64} {i : Int} (hG : zOK G "LineLearner" cX3_byteOf 3) (hR : zRoom G rm_X3_byteOf) (hE : zRetI G F cX3_byteOf 0 0 post) (hr : zRg I) (h1 : 0 ≤ i ∧ i ≤ 7)
    (k1 : post (some (.int (zI (zand (zl2i (zushr x (56 - (8 * i)))) 255)))) I) :
    zW G F 0 0 I [(0, .long x), (2, .int (zI i))] [] 0 := by
  refine z_lload_n 0 hG dX3_byteOf_0 rfl rfl ?_
  refine z_bipush 56 hG dX3_byteOf_1 (by decide) ?_
  refine z_bipush 8 hG dX3_byteOf_3 (by decide) ?_
  refine z_iload_n 1 hG dX3_byteOf_5 rfl rfl ?_
  refine z_imul hG dX3_byteOf_6 ?_
  refine z_isub hG dX3_byteOf_7 ?_
  refine z_lushr hG dX3_byteOf_8 ?_
  refine z_l2i hG dX3_byteOf_9 ?_
  refine z_sipush 255 hG dX3_byteOf_10 (by decide) ?_
  refine z_iand hG dX3_byteOf_13 ?_
  exact hE _ _ _ _ dX3_byteOf_14 (k1)

theorem c_X3_byteOf {F : zFr} {I : zStore}  {x : Int64} {i : Int}  (hr : zRg I) (h1 : 0 ≤ i ∧ i ≤ 7) : ∀ (l : Launch) (D : va_G) (cs : Nat → ClassId), l.stackTraces = false → zMt l yX3_byteOf cX3_byteOf 3 (some .int) rm_X3_byteOf D cs F I [.long x, .int (zI i)] (fun r I' => r = some (.int (zI (zby x i))) ∧ I' = I) :=
  fun l D cs hst => zMt.ofI hst (by decide +kernel) (Nat.le_of_ble_eq_true rfl) fun G hG hR hE => s_X3_byteOf hG hR hE hr h1
    (by intros; exact ⟨rfl, rfl⟩)
