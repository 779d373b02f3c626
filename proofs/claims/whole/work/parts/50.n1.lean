/-! rows that the model's methods need more -/
def zor (a b : Int) : Int := (zI a ||| zI b).toInt
def zshl (a b : Int) : Int := (zI a <<< (zI b &&& 31)).toInt
def zshr (a b : Int) : Int := (zI a >>> (zI b &&& 31)).toInt
def ziushr (a b : Int) : Int := ((zI a).toUInt32 >>> ((zI b).toUInt32 &&& Int32.toUInt32 31)).toInt32.toInt
theorem zup_up (I : zStore) (k : Nat) (i v w : Int) : zup (zup I k i v) k i w = zup I k i w := by
  funext a b
  unfold zup
  split <;> rfl
theorem zup_c {I : zStore} {k a : Nat} {i v : Int} (h : a ≠ k) : zup I k i v a = I a := by
  funext b
  exact zup_k h
section ZMR
variable {G : zCx} {F : zFr} {cells slots : Nat} {I : zStore} {lv lv' : zLv} {st : List Value} {pc : Nat} {own : String} {cc : ByteArray} {nL : Nat}
theorem z_ior {a b : Int} (hG : zOK G own cc nL) (hd : decode cc pc = .ok (.ior, 1)) (k : zW G F cells slots I lv (.int (zI (zor a b)) :: st) (pc + 1)) : zW G F cells slots I lv (.int (zI b) :: .int (zI a) :: st) pc := by
  obtain ⟨p, l, e, R, s, m, args, below, meth, c, Q, A, n, D, cs⟩ := G
  intro hc hs H locs ls hP hD hS hl
  have h := k hc hs H locs ls hP hD hS hl
  unfold zor at h
  rw [zI_of] at h
  exact lv_ior hG.1 hG.2.1 hd h
theorem z_ishl {a b : Int} (hG : zOK G own cc nL) (hd : decode cc pc = .ok (.ishl, 1)) (k : zW G F cells slots I lv (.int (zI (zshl a b)) :: st) (pc + 1)) : zW G F cells slots I lv (.int (zI b) :: .int (zI a) :: st) pc := by
  obtain ⟨p, l, e, R, s, m, args, below, meth, c, Q, A, n, D, cs⟩ := G
  intro hc hs H locs ls hP hD hS hl
  have h := k hc hs H locs ls hP hD hS hl
  unfold zshl at h
  rw [zI_of] at h
  exact lv_ishl hG.1 hG.2.1 hd h
theorem z_ishr {a b : Int} (hG : zOK G own cc nL) (hd : decode cc pc = .ok (.ishr, 1)) (k : zW G F cells slots I lv (.int (zI (zshr a b)) :: st) (pc + 1)) : zW G F cells slots I lv (.int (zI b) :: .int (zI a) :: st) pc := by
  obtain ⟨p, l, e, R, s, m, args, below, meth, c, Q, A, n, D, cs⟩ := G
  intro hc hs H locs ls hP hD hS hl
  have h := k hc hs H locs ls hP hD hS hl
  unfold zshr at h
  rw [zI_of] at h
  exact lv_ishr hG.1 hG.2.1 hd h
theorem z_iushr {a b : Int} (hG : zOK G own cc nL) (hd : decode cc pc = .ok (.iushr, 1)) (k : zW G F cells slots I lv (.int (zI (ziushr a b)) :: st) (pc + 1)) : zW G F cells slots I lv (.int (zI b) :: .int (zI a) :: st) pc := by
  obtain ⟨p, l, e, R, s, m, args, below, meth, c, Q, A, n, D, cs⟩ := G
  intro hc hs H locs ls hP hD hS hl
  have h := k hc hs H locs ls hP hD hS hl
  unfold ziushr at h
  rw [zI_of] at h
  exact lv_iushr hG.1 hG.2.1 hd rfl h
theorem z_land {x y : Int64} (hG : zOK G own cc nL) (hd : decode cc pc = .ok (.land, 1)) (k : zW G F cells slots I lv (.long (x &&& y) :: st) (pc + 1)) : zW G F cells slots I lv (.long y :: .long x :: st) pc := by
  obtain ⟨p, l, e, R, s, m, args, below, meth, c, Q, A, n, D, cs⟩ := G
  intro hc hs H locs ls hP hD hS hl
  exact lv_land hG.1 hG.2.1 hd (k hc hs H locs ls hP hD hS hl)
theorem zI_div {a b : Int} (ha : 0 ≤ a ∧ a < 2147483648) (hb : 0 < b ∧ b < 2147483648) : zI a / zI b = zI (a / b) := by
  have h0 : 0 ≤ a / b := Int.ediv_nonneg ha.1 (by omega)
  have h1 : a / b ≤ a := Int.ediv_le_self b ha.1
  apply Int32.toInt_inj.mp
  rw [Int32.toInt_div, zI_toInt (by omega) ha.2, zI_toInt (by omega) hb.2, zI_toInt (by omega) (by omega), Int.tdiv_eq_ediv_of_nonneg ha.1]
  exact zbm32 (by omega) (by omega)
theorem z_idiv {a b : Int} (hG : zOK G own cc nL) (ha : 0 ≤ a ∧ a < 2147483648) (hb : 0 < b ∧ b < 2147483648) (hd : decode cc pc = .ok (.idiv, 1)) (k : zW G F cells slots I lv (.int (zI (a / b)) :: st) (pc + 1)) : zW G F cells slots I lv (.int (zI b) :: .int (zI a) :: st) pc := by
  obtain ⟨p, l, e, R, s, m, args, below, meth, c, Q, A, n, D, cs⟩ := G
  intro hc hs H locs ls hP hD hS hl
  have h := k hc hs H locs ls hP hD hS hl
  rw [← zI_div ha hb] at h
  refine lv_idiv hG.1 hG.2.1 hd (fun q => ?_) h
  have h0 : zI b = zI 0 := q
  have := (zI_eq (a := b) (b := 0) (by omega) (by omega)).mp h0
  omega
theorem z_ldcw {index : Nat} {v : Int32} (n : Int) (hG : zOK G own cc nL) (hl : zWd (.constant own index v)) (hv : v = zI n) (hd : decode cc pc = .ok (.ldc_w index, 3)) (k : zW G F cells slots I lv (.int (zI n) :: st) (pc + 3)) : zW G F cells slots I lv st pc := by
  obtain ⟨p, l, e, R, s, m, args, below, meth, c, Q, A, nn, D, cs⟩ := G
  intro hc hs H locs ls hP hD hS hl2
  subst hv
  exact lv_ldcw hG.1 hG.2.1 hG.2.2.1 (hG.2.2.2.2.2.2.1.at hl _) hd (k hc hs H locs ls hP hD hS hl2)
end ZMR
/-! Integer.bitCount -/
theorem dJ6_bitCount_0f7a4_0 : decode cJ6_bitCount_0f7a4 0 = .ok (.iload_n 0, 1) := by decide +kernel
theorem dJ6_bitCount_0f7a4_1 : decode cJ6_bitCount_0f7a4 1 = .ok (.iload_n 0, 1) := by decide +kernel
theorem dJ6_bitCount_0f7a4_2 : decode cJ6_bitCount_0f7a4 2 = .ok (.iconst 1, 1) := by decide +kernel
theorem dJ6_bitCount_0f7a4_3 : decode cJ6_bitCount_0f7a4 3 = .ok (.iushr, 1) := by decide +kernel
theorem dJ6_bitCount_0f7a4_4 : decode cJ6_bitCount_0f7a4 4 = .ok (.ldc_w 265, 3) := by decide +kernel
theorem dJ6_bitCount_0f7a4_7 : decode cJ6_bitCount_0f7a4 7 = .ok (.iand, 1) := by decide +kernel
theorem dJ6_bitCount_0f7a4_8 : decode cJ6_bitCount_0f7a4 8 = .ok (.isub, 1) := by decide +kernel
theorem dJ6_bitCount_0f7a4_9 : decode cJ6_bitCount_0f7a4 9 = .ok (.istore_n 0, 1) := by decide +kernel
theorem dJ6_bitCount_0f7a4_10 : decode cJ6_bitCount_0f7a4 10 = .ok (.iload_n 0, 1) := by decide +kernel
theorem dJ6_bitCount_0f7a4_11 : decode cJ6_bitCount_0f7a4 11 = .ok (.ldc_w 266, 3) := by decide +kernel
theorem dJ6_bitCount_0f7a4_14 : decode cJ6_bitCount_0f7a4 14 = .ok (.iand, 1) := by decide +kernel
theorem dJ6_bitCount_0f7a4_15 : decode cJ6_bitCount_0f7a4 15 = .ok (.iload_n 0, 1) := by decide +kernel
theorem dJ6_bitCount_0f7a4_16 : decode cJ6_bitCount_0f7a4 16 = .ok (.iconst 2, 1) := by decide +kernel
theorem dJ6_bitCount_0f7a4_17 : decode cJ6_bitCount_0f7a4 17 = .ok (.iushr, 1) := by decide +kernel
theorem dJ6_bitCount_0f7a4_18 : decode cJ6_bitCount_0f7a4 18 = .ok (.ldc_w 266, 3) := by decide +kernel
theorem dJ6_bitCount_0f7a4_21 : decode cJ6_bitCount_0f7a4 21 = .ok (.iand, 1) := by decide +kernel
theorem dJ6_bitCount_0f7a4_22 : decode cJ6_bitCount_0f7a4 22 = .ok (.iadd, 1) := by decide +kernel
theorem dJ6_bitCount_0f7a4_23 : decode cJ6_bitCount_0f7a4 23 = .ok (.istore_n 0, 1) := by decide +kernel
theorem dJ6_bitCount_0f7a4_24 : decode cJ6_bitCount_0f7a4 24 = .ok (.iload_n 0, 1) := by decide +kernel
theorem dJ6_bitCount_0f7a4_25 : decode cJ6_bitCount_0f7a4 25 = .ok (.iload_n 0, 1) := by decide +kernel
theorem dJ6_bitCount_0f7a4_26 : decode cJ6_bitCount_0f7a4 26 = .ok (.iconst 4, 1) := by decide +kernel
theorem dJ6_bitCount_0f7a4_27 : decode cJ6_bitCount_0f7a4 27 = .ok (.iushr, 1) := by decide +kernel
theorem dJ6_bitCount_0f7a4_28 : decode cJ6_bitCount_0f7a4 28 = .ok (.iadd, 1) := by decide +kernel
theorem dJ6_bitCount_0f7a4_29 : decode cJ6_bitCount_0f7a4 29 = .ok (.ldc_w 267, 3) := by decide +kernel
theorem dJ6_bitCount_0f7a4_32 : decode cJ6_bitCount_0f7a4 32 = .ok (.iand, 1) := by decide +kernel
theorem dJ6_bitCount_0f7a4_33 : decode cJ6_bitCount_0f7a4 33 = .ok (.istore_n 0, 1) := by decide +kernel
theorem dJ6_bitCount_0f7a4_34 : decode cJ6_bitCount_0f7a4 34 = .ok (.iload_n 0, 1) := by decide +kernel
theorem dJ6_bitCount_0f7a4_35 : decode cJ6_bitCount_0f7a4 35 = .ok (.iload_n 0, 1) := by decide +kernel
theorem dJ6_bitCount_0f7a4_36 : decode cJ6_bitCount_0f7a4 36 = .ok (.bipush 8, 2) := by decide +kernel
theorem dJ6_bitCount_0f7a4_38 : decode cJ6_bitCount_0f7a4 38 = .ok (.iushr, 1) := by decide +kernel
theorem dJ6_bitCount_0f7a4_39 : decode cJ6_bitCount_0f7a4 39 = .ok (.iadd, 1) := by decide +kernel
theorem dJ6_bitCount_0f7a4_40 : decode cJ6_bitCount_0f7a4 40 = .ok (.istore_n 0, 1) := by decide +kernel
theorem dJ6_bitCount_0f7a4_41 : decode cJ6_bitCount_0f7a4 41 = .ok (.iload_n 0, 1) := by decide +kernel
theorem dJ6_bitCount_0f7a4_42 : decode cJ6_bitCount_0f7a4 42 = .ok (.iload_n 0, 1) := by decide +kernel
theorem dJ6_bitCount_0f7a4_43 : decode cJ6_bitCount_0f7a4 43 = .ok (.bipush 16, 2) := by decide +kernel
theorem dJ6_bitCount_0f7a4_45 : decode cJ6_bitCount_0f7a4 45 = .ok (.iushr, 1) := by decide +kernel
theorem dJ6_bitCount_0f7a4_46 : decode cJ6_bitCount_0f7a4 46 = .ok (.iadd, 1) := by decide +kernel
theorem dJ6_bitCount_0f7a4_47 : decode cJ6_bitCount_0f7a4 47 = .ok (.istore_n 0, 1) := by decide +kernel
theorem dJ6_bitCount_0f7a4_48 : decode cJ6_bitCount_0f7a4 48 = .ok (.iload_n 0, 1) := by decide +kernel
theorem dJ6_bitCount_0f7a4_49 : decode cJ6_bitCount_0f7a4 49 = .ok (.bipush 63, 2) := by decide +kernel
theorem dJ6_bitCount_0f7a4_51 : decode cJ6_bitCount_0f7a4 51 = .ok (.iand, 1) := by decide +kernel
theorem dJ6_bitCount_0f7a4_52 : decode cJ6_bitCount_0f7a4 52 = .ok (.ireturn, 1) := by decide +kernel
theorem hd_J_bc : zHead yJ6_bitCount_0f7a4 cJ6_bitCount_0f7a4 1 1 (some .int) := ⟨kw850, kw13, by decide +kernel, by decide +kernel, by decide +kernel⟩
/-- how many of the n lowest bits are set -/
def zbcN : Nat → Int → Int
  | 0, _ => 0
  | n + 1, v => v % 2 + zbcN n (v / 2)
def zbc (v : Int) : Int := zbcN 12 v
def zbcE (v : Int) : Int := zand (((zand (((zand (v - (zand (ziushr v 1) 1431655765)) 858993459) + (zand (ziushr (v - (zand (ziushr v 1) 1431655765)) 2) 858993459)) + (ziushr ((zand (v - (zand (ziushr v 1) 1431655765)) 858993459) + (zand (ziushr (v - (zand (ziushr v 1) 1431655765)) 2) 858993459)) 4)) 252645135) + (ziushr (zand (((zand (v - (zand (ziushr v 1) 1431655765)) 858993459) + (zand (ziushr (v - (zand (ziushr v 1) 1431655765)) 2) 858993459)) + (ziushr ((zand (v - (zand (ziushr v 1) 1431655765)) 858993459) + (zand (ziushr (v - (zand (ziushr v 1) 1431655765)) 2) 858993459)) 4)) 252645135) 8)) + (ziushr ((zand (((zand (v - (zand (ziushr v 1) 1431655765)) 858993459) + (zand (ziushr (v - (zand (ziushr v 1) 1431655765)) 2) 858993459)) + (ziushr ((zand (v - (zand (ziushr v 1) 1431655765)) 858993459) + (zand (ziushr (v - (zand (ziushr v 1) 1431655765)) 2) 858993459)) 4)) 252645135) + (ziushr (zand (((zand (v - (zand (ziushr v 1) 1431655765)) 858993459) + (zand (ziushr (v - (zand (ziushr v 1) 1431655765)) 2) 858993459)) + (ziushr ((zand (v - (zand (ziushr v 1) 1431655765)) 858993459) + (zand (ziushr (v - (zand (ziushr v 1) 1431655765)) 2) 858993459)) 4)) 252645135) 8)) 16)) 63
theorem zbcE_q : ∀ a : Nat, a < 64 → ∀ b : Nat, b < 64 → zbcE ((64 * a + b : Nat) : Int) = zbc ((64 * a + b : Nat) : Int) := by decide +kernel
theorem zbcE_eq {v : Int} (h : 0 ≤ v ∧ v < 4096) : zbcE v = zbc v := by
  have h1 := zbcE_q (v / 64).toNat (by omega) (v % 64).toNat (by omega)
  have h2 : ((64 * (v / 64).toNat + (v % 64).toNat : Nat) : Int) = v := by omega
  rw [h2] at h1
  exact h1
theorem zbcN_bd : ∀ (n : Nat) (v : Int), 0 ≤ zbcN n v ∧ zbcN n v ≤ n
  | 0, _ => by simp [zbcN]
  | n + 1, v => by
    have := zbcN_bd n (v / 2)
    simp only [zbcN]
    omega
theorem zbc_bd (v : Int) : 0 ≤ zbc v ∧ zbc v ≤ 12 := zbcN_bd 12 v
abbrev rm_J_bc : Room := { frames := 0, cells := 0, slots := 0, locals := 0 }
set_option maxRecDepth 100000 in
set_option maxHeartbeats 4000000 in
theorem s_J_bc {G : zCx} {F : zFr} {I : zStore} {post : Option Value → zStore → Prop}{v : Int} (hG : zOK G "java/lang/Integer" cJ6_bitCount_0f7a4 1) (hR : zRoom G rm_J_bc) (hE : zRetI G F cJ6_bitCount_0f7a4 0 0 post) (hr : zRg I) (h1 : 0 ≤ v ∧ v < 4096)
    (k1 : post (some (.int (zI (zand (((zand (((zand (v - (zand (ziushr v 1) 1431655765)) 858993459) + (zand (ziushr (v - (zand (ziushr v 1) 1431655765)) 2) 858993459)) + (ziushr ((zand (v - (zand (ziushr v 1) 1431655765)) 858993459) + (zand (ziushr (v - (zand (ziushr v 1) 1431655765)) 2) 858993459)) 4)) 252645135) + (ziushr (zand (((zand (v - (zand (ziushr v 1) 1431655765)) 858993459) + (zand (ziushr (v - (zand (ziushr v 1) 1431655765)) 2) 858993459)) + (ziushr ((zand (v - (zand (ziushr v 1) 1431655765)) 858993459) + (zand (ziushr (v - (zand (ziushr v 1) 1431655765)) 2) 858993459)) 4)) 252645135) 8)) + (ziushr ((zand (((zand (v - (zand (ziushr v 1) 1431655765)) 858993459) + (zand (ziushr (v - (zand (ziushr v 1) 1431655765)) 2) 858993459)) + (ziushr ((zand (v - (zand (ziushr v 1) 1431655765)) 858993459) + (zand (ziushr (v - (zand (ziushr v 1) 1431655765)) 2) 858993459)) 4)) 252645135) + (ziushr (zand (((zand (v - (zand (ziushr v 1) 1431655765)) 858993459) + (zand (ziushr (v - (zand (ziushr v 1) 1431655765)) 2) 858993459)) + (ziushr ((zand (v - (zand (ziushr v 1) 1431655765)) 858993459) + (zand (ziushr (v - (zand (ziushr v 1) 1431655765)) 2) 858993459)) 4)) 252645135) 8)) 16)) 63)))) I) :
    zW G F 0 0 I [(0, .int (zI v))] [] 0 := by
  refine z_iload_n 0 hG dJ6_bitCount_0f7a4_0 rfl rfl ?_
  refine z_iload_n 0 hG dJ6_bitCount_0f7a4_1 rfl rfl ?_
  refine z_iconst 1 hG dJ6_bitCount_0f7a4_2 ?_
  refine z_iushr hG dJ6_bitCount_0f7a4_3 ?_
  refine z_ldcw 1431655765 hG kw851 (by decide) dJ6_bitCount_0f7a4_4 ?_
  refine z_iand hG dJ6_bitCount_0f7a4_7 ?_
  refine z_isub hG dJ6_bitCount_0f7a4_8 ?_
  refine z_istore_n (lv' := [(0, .int (zI (v - (zand (ziushr v 1) 1431655765))))]) hG dJ6_bitCount_0f7a4_9 rfl (by decide) rfl ?_
  refine z_iload_n 0 hG dJ6_bitCount_0f7a4_10 rfl rfl ?_
  refine z_ldcw 858993459 hG kw852 (by decide) dJ6_bitCount_0f7a4_11 ?_
  refine z_iand hG dJ6_bitCount_0f7a4_14 ?_
  refine z_iload_n 0 hG dJ6_bitCount_0f7a4_15 rfl rfl ?_
  refine z_iconst 2 hG dJ6_bitCount_0f7a4_16 ?_
  refine z_iushr hG dJ6_bitCount_0f7a4_17 ?_
  refine z_ldcw 858993459 hG kw852 (by decide) dJ6_bitCount_0f7a4_18 ?_
  refine z_iand hG dJ6_bitCount_0f7a4_21 ?_
  refine z_iadd hG dJ6_bitCount_0f7a4_22 ?_
  refine z_istore_n (lv' := [(0, .int (zI ((zand (v - (zand (ziushr v 1) 1431655765)) 858993459) + (zand (ziushr (v - (zand (ziushr v 1) 1431655765)) 2) 858993459))))]) hG dJ6_bitCount_0f7a4_23 rfl (by decide) rfl ?_
  refine z_iload_n 0 hG dJ6_bitCount_0f7a4_24 rfl rfl ?_
  refine z_iload_n 0 hG dJ6_bitCount_0f7a4_25 rfl rfl ?_
  refine z_iconst 4 hG dJ6_bitCount_0f7a4_26 ?_
  refine z_iushr hG dJ6_bitCount_0f7a4_27 ?_
  refine z_iadd hG dJ6_bitCount_0f7a4_28 ?_
  refine z_ldcw 252645135 hG kw853 (by decide) dJ6_bitCount_0f7a4_29 ?_
  refine z_iand hG dJ6_bitCount_0f7a4_32 ?_
  refine z_istore_n (lv' := [(0, .int (zI (zand (((zand (v - (zand (ziushr v 1) 1431655765)) 858993459) + (zand (ziushr (v - (zand (ziushr v 1) 1431655765)) 2) 858993459)) + (ziushr ((zand (v - (zand (ziushr v 1) 1431655765)) 858993459) + (zand (ziushr (v - (zand (ziushr v 1) 1431655765)) 2) 858993459)) 4)) 252645135)))]) hG dJ6_bitCount_0f7a4_33 rfl (by decide) rfl ?_
  refine z_iload_n 0 hG dJ6_bitCount_0f7a4_34 rfl rfl ?_
  refine z_iload_n 0 hG dJ6_bitCount_0f7a4_35 rfl rfl ?_
  refine z_bipush 8 hG dJ6_bitCount_0f7a4_36 (by decide) ?_
  refine z_iushr hG dJ6_bitCount_0f7a4_38 ?_
  refine z_iadd hG dJ6_bitCount_0f7a4_39 ?_
  refine z_istore_n (lv' := [(0, .int (zI ((zand (((zand (v - (zand (ziushr v 1) 1431655765)) 858993459) + (zand (ziushr (v - (zand (ziushr v 1) 1431655765)) 2) 858993459)) + (ziushr ((zand (v - (zand (ziushr v 1) 1431655765)) 858993459) + (zand (ziushr (v - (zand (ziushr v 1) 1431655765)) 2) 858993459)) 4)) 252645135) + (ziushr (zand (((zand (v - (zand (ziushr v 1) 1431655765)) 858993459) + (zand (ziushr (v - (zand (ziushr v 1) 1431655765)) 2) 858993459)) + (ziushr ((zand (v - (zand (ziushr v 1) 1431655765)) 858993459) + (zand (ziushr (v - (zand (ziushr v 1) 1431655765)) 2) 858993459)) 4)) 252645135) 8))))]) hG dJ6_bitCount_0f7a4_40 rfl (by decide) rfl ?_
  refine z_iload_n 0 hG dJ6_bitCount_0f7a4_41 rfl rfl ?_
  refine z_iload_n 0 hG dJ6_bitCount_0f7a4_42 rfl rfl ?_
  refine z_bipush 16 hG dJ6_bitCount_0f7a4_43 (by decide) ?_
  refine z_iushr hG dJ6_bitCount_0f7a4_45 ?_
  refine z_iadd hG dJ6_bitCount_0f7a4_46 ?_
  refine z_istore_n (lv' := [(0, .int (zI (((zand (((zand (v - (zand (ziushr v 1) 1431655765)) 858993459) + (zand (ziushr (v - (zand (ziushr v 1) 1431655765)) 2) 858993459)) + (ziushr ((zand (v - (zand (ziushr v 1) 1431655765)) 858993459) + (zand (ziushr (v - (zand (ziushr v 1) 1431655765)) 2) 858993459)) 4)) 252645135) + (ziushr (zand (((zand (v - (zand (ziushr v 1) 1431655765)) 858993459) + (zand (ziushr (v - (zand (ziushr v 1) 1431655765)) 2) 858993459)) + (ziushr ((zand (v - (zand (ziushr v 1) 1431655765)) 858993459) + (zand (ziushr (v - (zand (ziushr v 1) 1431655765)) 2) 858993459)) 4)) 252645135) 8)) + (ziushr ((zand (((zand (v - (zand (ziushr v 1) 1431655765)) 858993459) + (zand (ziushr (v - (zand (ziushr v 1) 1431655765)) 2) 858993459)) + (ziushr ((zand (v - (zand (ziushr v 1) 1431655765)) 858993459) + (zand (ziushr (v - (zand (ziushr v 1) 1431655765)) 2) 858993459)) 4)) 252645135) + (ziushr (zand (((zand (v - (zand (ziushr v 1) 1431655765)) 858993459) + (zand (ziushr (v - (zand (ziushr v 1) 1431655765)) 2) 858993459)) + (ziushr ((zand (v - (zand (ziushr v 1) 1431655765)) 858993459) + (zand (ziushr (v - (zand (ziushr v 1) 1431655765)) 2) 858993459)) 4)) 252645135) 8)) 16))))]) hG dJ6_bitCount_0f7a4_47 rfl (by decide) rfl ?_
  refine z_iload_n 0 hG dJ6_bitCount_0f7a4_48 rfl rfl ?_
  refine z_bipush 63 hG dJ6_bitCount_0f7a4_49 (by decide) ?_
  refine z_iand hG dJ6_bitCount_0f7a4_51 ?_
  exact hE _ _ _ _ dJ6_bitCount_0f7a4_52 (k1)

theorem c_J_bc {F : zFr} {I : zStore}  {v : Int}  (hr : zRg I) (h1 : 0 ≤ v ∧ v < 4096) : ∀ (l : Launch) (D : va_G) (cs : Nat → ClassId), l.stackTraces = false → zMt l yJ6_bitCount_0f7a4 cJ6_bitCount_0f7a4 1 (some .int) rm_J_bc D cs F I [.int (zI v)] (fun r I' => r = some (.int (zI (zbc v))) ∧ I' = I) :=
  fun l D cs hst => zMt.ofI hst (by decide +kernel) (Nat.le_of_ble_eq_true rfl) fun G hG hR hE => s_J_bc hG hR hE hr h1
    (by intros; exact ⟨by rw [← zbcE_eq h1]; rfl, rfl⟩)
abbrev rm_X4_thrown : Room := { frames := 0, cells := 0, slots := 0, locals := 0 }
set_option maxRecDepth 100000 in
set_option maxHeartbeats 4000000 in
theorem s_X4_thrown {G : zCx} {F : zFr} {I : zStore} {post : Option Value → zStore → Prop} (hG : zOK G "LineLearnerModel" cX4_thrown 1) (hR : zRoom G rm_X4_thrown) (hE : zRetI G F cX4_thrown 0 0 post) (hL : zLayM F) (hr : zRg I)
    (k1 : post (some (.int (zI (I 110 0)))) I) :
    zW G F 0 0 I [(0, .ref (F.1 110))] [] 0 := by
  refine z_aload_n 0 hG dX4_thrown_0 rfl rfl ?_
  refine z_getI (v := I 110 0) hG zcl4 (zltM hL (by decide)) (zl110 hL) 0 (by decide) rfl rfl rfl kw677 dX4_thrown_1 ?_
  exact hE _ _ _ _ dX4_thrown_4 (k1)

theorem c_X4_thrown {F : zFr} {I : zStore}    (hL : zLayM F) (hr : zRg I) : ∀ (l : Launch) (D : va_G) (cs : Nat → ClassId), l.stackTraces = false → zMt l yX4_thrown cX4_thrown 1 (some .int) rm_X4_thrown D cs F I [.ref (F.1 110)] (fun r I' => r = some (.int (zI (I 110 0))) ∧ I' = I) :=
  fun l D cs hst => zMt.ofI hst (by decide +kernel) (Nat.le_of_ble_eq_true rfl) fun G hG hR hE => s_X4_thrown hG hR hE hL hr
    (by intros; refine ⟨?_, ?_⟩ <;> (repeat' split) <;> first | rfl | (exfalso; omega) | exact zup_up _ _ _ _ _ | (simp only [zup_self]; done))
abbrev rm_X4_fail : Room := { frames := 0, cells := 0, slots := 0, locals := 0 }
set_option maxRecDepth 100000 in
set_option maxHeartbeats 4000000 in
theorem s_X4_fail {G : zCx} {F : zFr} {I : zStore} {post : Option Value → zStore → Prop}{k : Int} (hG : zOK G "LineLearnerModel" cX4_fail 2) (hR : zRoom G rm_X4_fail) (hE : zRetI G F cX4_fail 0 0 post) (hL : zLayM F) (hr : zRg I) (h1 : -2147483648 ≤ k ∧ k < 2147483648)
    (k1 : post (some (.int (zI 0))) (zup I 110 0 k)) :
    zW G F 0 0 I [(0, .ref (F.1 110)), (1, .int (zI k))] [] 0 := by
  refine z_aload_n 0 hG dX4_fail_0 rfl rfl ?_
  refine z_iload_n 1 hG dX4_fail_1 rfl rfl ?_
  refine z_putI hG zcl4 (zltM hL (by decide)) (zl110 hL) 0 (by decide) (ki := 0) rfl rfl kw677 rfl rfl dX4_fail_2 ?_
  refine z_iconst 0 hG dX4_fail_5 ?_
  exact hE _ _ _ _ dX4_fail_6 (k1)

theorem c_X4_fail {F : zFr} {I : zStore}  {k : Int}  (hL : zLayM F) (hr : zRg I) (h1 : -2147483648 ≤ k ∧ k < 2147483648) : ∀ (l : Launch) (D : va_G) (cs : Nat → ClassId), l.stackTraces = false → zMt l yX4_fail cX4_fail 2 (some .int) rm_X4_fail D cs F I [.ref (F.1 110), .int (zI k)] (fun r I' => r = some (.int (zI 0)) ∧ I' = (zup I 110 0 k)) :=
  fun l D cs hst => zMt.ofI hst (by decide +kernel) (Nat.le_of_ble_eq_true rfl) fun G hG hR hE => s_X4_fail hG hR hE hL hr h1
    (by intros; refine ⟨?_, ?_⟩ <;> (repeat' split) <;> first | rfl | (exfalso; omega) | exact zup_up _ _ _ _ _ | (simp only [zup_self]; done))
abbrev rm_X4_isLine : Room := { frames := 0, cells := 0, slots := 0, locals := 0 }
set_option maxRecDepth 100000 in
set_option maxHeartbeats 4000000 in
theorem s_X4_isLine {G : zCx} {F : zFr} {I : zStore} {post : Option Value → zStore → Prop}{line : Int} (hG : zOK G "LineLearnerModel" cX4_isLine 2) (hR : zRoom G rm_X4_isLine) (hE : zRetZ G F cX4_isLine 0 0 post) (hL : zLayM F) (hr : zRg I) (hl : -2147483648 ≤ line ∧ line < 2147483648)
    (k1 : (line < 0) → post (some (.int (zI 0))) I)
    (k2 : (0 ≤ line) → ((I 110 3) ≤ line) → post (some (.int (zI 0))) I)
    (k3 : (0 ≤ line) → (line < (I 110 3)) → post (some (.int (zI 1))) I) :
    zW G F 0 0 I [(0, .ref (F.1 110)), (1, .int (zI line))] [] 0 := by
  refine z_iload_n 1 hG dX4_isLine_0 rfl rfl ?_
  refine z_if_lt (tgt := 16) hG dX4_isLine_1 (by decide) (by omega) (fun c1 => ?_) (fun c1 => ?_)
  · skip
    refine z_iconst 0 hG dX4_isLine_16 ?_
    exact hE _ _ _ _ dX4_isLine_17 (by first | decide | omega) (k1 c1)
  · skip
    refine z_iload_n 1 hG dX4_isLine_4 rfl rfl ?_
    refine z_aload_n 0 hG dX4_isLine_5 rfl rfl ?_
    refine z_getI (v := I 110 3) hG zcl4 (zltM hL (by decide)) (zl110 hL) 3 (by decide) rfl rfl rfl kw680 dX4_isLine_6 ?_
    refine z_icmp_ge (tgt := 16) hG dX4_isLine_9 (by decide) (by omega) (hr _ _) (fun c9 => ?_) (fun c9 => ?_)
    · skip
      refine z_iconst 0 hG dX4_isLine_16 ?_
      exact hE _ _ _ _ dX4_isLine_17 (by first | decide | omega) (k2 c1 c9)
    · skip
      refine z_iconst 1 hG dX4_isLine_12 ?_
      refine z_goto (tgt := 17) hG dX4_isLine_13 (by decide) ?_
      exact hE _ _ _ _ dX4_isLine_17 (by first | decide | omega) (k3 c1 c9)

theorem c_X4_isLine {F : zFr} {I : zStore}  {line : Int}  (hL : zLayM F) (hr : zRg I) (hl : -2147483648 ≤ line ∧ line < 2147483648) : ∀ (l : Launch) (D : va_G) (cs : Nat → ClassId), l.stackTraces = false → zMt l yX4_isLine cX4_isLine 2 (some .boolean) rm_X4_isLine D cs F I [.ref (F.1 110), .int (zI line)] (fun r I' => r = some (.int (zI (if 0 ≤ line ∧ line < I 110 3 then 1 else 0))) ∧ I' = I) :=
  fun l D cs hst => zMt.ofZ hst (by decide +kernel) (Nat.le_of_ble_eq_true rfl) fun G hG hR hE => s_X4_isLine hG hR hE hL hr hl
    (by intros; refine ⟨?_, ?_⟩ <;> (repeat' split) <;> first | rfl | (exfalso; omega) | exact zup_up _ _ _ _ _ | (simp only [zup_self]; done))
    (by intros; refine ⟨?_, ?_⟩ <;> (repeat' split) <;> first | rfl | (exfalso; omega) | exact zup_up _ _ _ _ _ | (simp only [zup_self]; done))
    (by intros; refine ⟨?_, ?_⟩ <;> (repeat' split) <;> first | rfl | (exfalso; omega) | exact zup_up _ _ _ _ _ | (simp only [zup_self]; done))
abbrev rm_X4_isSlot : Room := { frames := 0, cells := 0, slots := 0, locals := 0 }
set_option maxRecDepth 100000 in
set_option maxHeartbeats 4000000 in
theorem s_X4_isSlot {G : zCx} {F : zFr} {I : zStore} {post : Option Value → zStore → Prop}{slot : Int} (hG : zOK G "LineLearnerModel" cX4_isSlot 2) (hR : zRoom G rm_X4_isSlot) (hE : zRetZ G F cX4_isSlot 0 0 post) (hL : zLayM F) (hr : zRg I) (hs : -2147483648 ≤ slot ∧ slot < 2147483648)
    (k1 : (slot < 0) → post (some (.int (zI 0))) I)
    (k2 : (0 ≤ slot) → ((I 118 0) ≤ slot) → post (some (.int (zI 0))) I)
    (k3 : (0 ≤ slot) → (slot < (I 118 0)) → post (some (.int (zI 1))) I) :
    zW G F 0 0 I [(0, .ref (F.1 110)), (1, .int (zI slot))] [] 0 := by
  refine z_iload_n 1 hG dX4_isSlot_0 rfl rfl ?_
  refine z_if_lt (tgt := 18) hG dX4_isSlot_1 (by decide) (by omega) (fun c1 => ?_) (fun c1 => ?_)
  · skip
    refine z_iconst 0 hG dX4_isSlot_18 ?_
    exact hE _ _ _ _ dX4_isSlot_19 (by first | decide | omega) (k1 c1)
  · skip
    refine z_iload_n 1 hG dX4_isSlot_4 rfl rfl ?_
    refine z_aload_n 0 hG dX4_isSlot_5 rfl rfl ?_
    refine z_getR (t := 118) hG zcl4 (zltM hL (by decide)) (zl110 hL) 13 (by decide) rfl kw690 dX4_isSlot_6 ?_
    refine z_iconst 0 hG dX4_isSlot_9 ?_
    refine z_iald (v := I 118 0) hG (zltM hL (by decide)) (zl118 hL) (by decide) (by decide) rfl dX4_isSlot_10 ?_
    refine z_icmp_ge (tgt := 18) hG dX4_isSlot_11 (by decide) (by omega) (hr _ _) (fun c11 => ?_) (fun c11 => ?_)
    · skip
      refine z_iconst 0 hG dX4_isSlot_18 ?_
      exact hE _ _ _ _ dX4_isSlot_19 (by first | decide | omega) (k2 c1 c11)
    · skip
      refine z_iconst 1 hG dX4_isSlot_14 ?_
      refine z_goto (tgt := 19) hG dX4_isSlot_15 (by decide) ?_
      exact hE _ _ _ _ dX4_isSlot_19 (by first | decide | omega) (k3 c1 c11)

theorem c_X4_isSlot {F : zFr} {I : zStore}  {slot : Int}  (hL : zLayM F) (hr : zRg I) (hs : -2147483648 ≤ slot ∧ slot < 2147483648) : ∀ (l : Launch) (D : va_G) (cs : Nat → ClassId), l.stackTraces = false → zMt l yX4_isSlot cX4_isSlot 2 (some .boolean) rm_X4_isSlot D cs F I [.ref (F.1 110), .int (zI slot)] (fun r I' => r = some (.int (zI (if 0 ≤ slot ∧ slot < I 118 0 then 1 else 0))) ∧ I' = I) :=
  fun l D cs hst => zMt.ofZ hst (by decide +kernel) (Nat.le_of_ble_eq_true rfl) fun G hG hR hE => s_X4_isSlot hG hR hE hL hr hs
    (by intros; refine ⟨?_, ?_⟩ <;> (repeat' split) <;> first | rfl | (exfalso; omega) | exact zup_up _ _ _ _ _ | (simp only [zup_self]; done))
    (by intros; refine ⟨?_, ?_⟩ <;> (repeat' split) <;> first | rfl | (exfalso; omega) | exact zup_up _ _ _ _ _ | (simp only [zup_self]; done))
    (by intros; refine ⟨?_, ?_⟩ <;> (repeat' split) <;> first | rfl | (exfalso; omega) | exact zup_up _ _ _ _ _ | (simp only [zup_self]; done))
abbrev rm_X4_kindOf : Room := { frames := 0, cells := 0, slots := 0, locals := 0 }
set_option maxRecDepth 100000 in
set_option maxHeartbeats 4000000 in
theorem s_X4_kindOf {G : zCx} {F : zFr} {I : zStore} {post : Option Value → zStore → Prop}{c : Int} (hG : zOK G "LineLearnerModel" cX4_kindOf 1) (hR : zRoom G rm_X4_kindOf) (hE : zRetI G F cX4_kindOf 0 0 post) (hr : zRg I) (h1 : -128 ≤ c ∧ c ≤ 127)
    (k1 : (c < 65) → (c < 97) → (c < 48) → (c ≠ 32) → post (some (.int (zI 3))) I)
    (k2 : (c < 65) → (c < 97) → (c < 48) → (c = 32) → post (some (.int (zI 2))) I)
    (k3 : (c < 65) → (c < 97) → (48 ≤ c) → (57 < c) → (c ≠ 32) → post (some (.int (zI 3))) I)
    (k4 : (c < 65) → (c < 97) → (48 ≤ c) → (57 < c) → (c = 32) → post (some (.int (zI 2))) I)
    (k5 : (c < 65) → (c < 97) → (48 ≤ c) → (c ≤ 57) → post (some (.int (zI 1))) I)
    (k6 : (c < 65) → (97 ≤ c) → (122 < c) → (c < 48) → (c ≠ 32) → post (some (.int (zI 3))) I)
    (k7 : (c < 65) → (97 ≤ c) → (122 < c) → (c < 48) → (c = 32) → post (some (.int (zI 2))) I)
    (k8 : (c < 65) → (97 ≤ c) → (122 < c) → (48 ≤ c) → (57 < c) → (c ≠ 32) → post (some (.int (zI 3))) I)
    (k9 : (c < 65) → (97 ≤ c) → (122 < c) → (48 ≤ c) → (57 < c) → (c = 32) → post (some (.int (zI 2))) I)
    (k10 : (c < 65) → (97 ≤ c) → (122 < c) → (48 ≤ c) → (c ≤ 57) → post (some (.int (zI 1))) I)
    (k11 : (c < 65) → (97 ≤ c) → (c ≤ 122) → post (some (.int (zI 0))) I)
    (k12 : (65 ≤ c) → (c ≤ 90) → post (some (.int (zI 0))) I)
    (k13 : (65 ≤ c) → (90 < c) → (c < 97) → (c < 48) → (c ≠ 32) → post (some (.int (zI 3))) I)
    (k14 : (65 ≤ c) → (90 < c) → (c < 97) → (c < 48) → (c = 32) → post (some (.int (zI 2))) I)
    (k15 : (65 ≤ c) → (90 < c) → (c < 97) → (48 ≤ c) → (57 < c) → (c ≠ 32) → post (some (.int (zI 3))) I)
    (k16 : (65 ≤ c) → (90 < c) → (c < 97) → (48 ≤ c) → (57 < c) → (c = 32) → post (some (.int (zI 2))) I)
    (k17 : (65 ≤ c) → (90 < c) → (c < 97) → (48 ≤ c) → (c ≤ 57) → post (some (.int (zI 1))) I)
    (k18 : (65 ≤ c) → (90 < c) → (97 ≤ c) → (122 < c) → (c < 48) → (c ≠ 32) → post (some (.int (zI 3))) I)
    (k19 : (65 ≤ c) → (90 < c) → (97 ≤ c) → (122 < c) → (c < 48) → (c = 32) → post (some (.int (zI 2))) I)
    (k20 : (65 ≤ c) → (90 < c) → (97 ≤ c) → (122 < c) → (48 ≤ c) → (57 < c) → (c ≠ 32) → post (some (.int (zI 3))) I)
    (k21 : (65 ≤ c) → (90 < c) → (97 ≤ c) → (122 < c) → (48 ≤ c) → (57 < c) → (c = 32) → post (some (.int (zI 2))) I)
    (k22 : (65 ≤ c) → (90 < c) → (97 ≤ c) → (122 < c) → (48 ≤ c) → (c ≤ 57) → post (some (.int (zI 1))) I)
    (k23 : (65 ≤ c) → (90 < c) → (97 ≤ c) → (c ≤ 122) → post (some (.int (zI 0))) I) :
    zW G F 0 0 I [(0, .int (zI c))] [] 0 := by
  refine z_iload_n 0 hG dX4_kindOf_0 rfl rfl ?_
  refine z_bipush 65 hG dX4_kindOf_1 (by decide) ?_
  refine z_icmp_lt (tgt := 12) hG dX4_kindOf_3 (by decide) (by omega) (by decide) (fun c3 => ?_) (fun c3 => ?_)
  · skip
    refine z_iload_n 0 hG dX4_kindOf_12 rfl rfl ?_
    refine z_bipush 97 hG dX4_kindOf_13 (by decide) ?_
    refine z_icmp_lt (tgt := 28) hG dX4_kindOf_15 (by decide) (by omega) (by decide) (fun c15 => ?_) (fun c15 => ?_)
    · skip
      refine z_iload_n 0 hG dX4_kindOf_28 rfl rfl ?_
      refine z_bipush 48 hG dX4_kindOf_29 (by decide) ?_
      refine z_icmp_lt (tgt := 44) hG dX4_kindOf_31 (by decide) (by omega) (by decide) (fun c31 => ?_) (fun c31 => ?_)
      · skip
        refine z_iload_n 0 hG dX4_kindOf_44 rfl rfl ?_
        refine z_bipush 32 hG dX4_kindOf_45 (by decide) ?_
        refine z_icmp_ne (tgt := 54) hG dX4_kindOf_47 (by decide) (by omega) (by decide) (fun c47 => ?_) (fun c47 => ?_)
        · skip
          refine z_iconst 3 hG dX4_kindOf_54 ?_
          exact hE _ _ _ _ dX4_kindOf_55 (k1 c3 c15 c31 c47)
        · skip
          refine z_iconst 2 hG dX4_kindOf_50 ?_
          refine z_goto (tgt := 55) hG dX4_kindOf_51 (by decide) ?_
          exact hE _ _ _ _ dX4_kindOf_55 (k2 c3 c15 c31 c47)
      · skip
        refine z_iload_n 0 hG dX4_kindOf_34 rfl rfl ?_
        refine z_bipush 57 hG dX4_kindOf_35 (by decide) ?_
        refine z_icmp_gt (tgt := 44) hG dX4_kindOf_37 (by decide) (by omega) (by decide) (fun c37 => ?_) (fun c37 => ?_)
        · skip
          refine z_iload_n 0 hG dX4_kindOf_44 rfl rfl ?_
          refine z_bipush 32 hG dX4_kindOf_45 (by decide) ?_
          refine z_icmp_ne (tgt := 54) hG dX4_kindOf_47 (by decide) (by omega) (by decide) (fun c47 => ?_) (fun c47 => ?_)
          · skip
            refine z_iconst 3 hG dX4_kindOf_54 ?_
            exact hE _ _ _ _ dX4_kindOf_55 (k3 c3 c15 c31 c37 c47)
          · skip
            refine z_iconst 2 hG dX4_kindOf_50 ?_
            refine z_goto (tgt := 55) hG dX4_kindOf_51 (by decide) ?_
            exact hE _ _ _ _ dX4_kindOf_55 (k4 c3 c15 c31 c37 c47)
        · skip
          refine z_iconst 1 hG dX4_kindOf_40 ?_
          refine z_goto (tgt := 55) hG dX4_kindOf_41 (by decide) ?_
          exact hE _ _ _ _ dX4_kindOf_55 (k5 c3 c15 c31 c37)
    · skip
      refine z_iload_n 0 hG dX4_kindOf_18 rfl rfl ?_
      refine z_bipush 122 hG dX4_kindOf_19 (by decide) ?_
      refine z_icmp_gt (tgt := 28) hG dX4_kindOf_21 (by decide) (by omega) (by decide) (fun c21 => ?_) (fun c21 => ?_)
      · skip
        refine z_iload_n 0 hG dX4_kindOf_28 rfl rfl ?_
        refine z_bipush 48 hG dX4_kindOf_29 (by decide) ?_
        refine z_icmp_lt (tgt := 44) hG dX4_kindOf_31 (by decide) (by omega) (by decide) (fun c31 => ?_) (fun c31 => ?_)
        · skip
          refine z_iload_n 0 hG dX4_kindOf_44 rfl rfl ?_
          refine z_bipush 32 hG dX4_kindOf_45 (by decide) ?_
          refine z_icmp_ne (tgt := 54) hG dX4_kindOf_47 (by decide) (by omega) (by decide) (fun c47 => ?_) (fun c47 => ?_)
          · skip
            refine z_iconst 3 hG dX4_kindOf_54 ?_
            exact hE _ _ _ _ dX4_kindOf_55 (k6 c3 c15 c21 c31 c47)
          · skip
            refine z_iconst 2 hG dX4_kindOf_50 ?_
            refine z_goto (tgt := 55) hG dX4_kindOf_51 (by decide) ?_
            exact hE _ _ _ _ dX4_kindOf_55 (k7 c3 c15 c21 c31 c47)
        · skip
          refine z_iload_n 0 hG dX4_kindOf_34 rfl rfl ?_
          refine z_bipush 57 hG dX4_kindOf_35 (by decide) ?_
          refine z_icmp_gt (tgt := 44) hG dX4_kindOf_37 (by decide) (by omega) (by decide) (fun c37 => ?_) (fun c37 => ?_)
          · skip
            refine z_iload_n 0 hG dX4_kindOf_44 rfl rfl ?_
            refine z_bipush 32 hG dX4_kindOf_45 (by decide) ?_
            refine z_icmp_ne (tgt := 54) hG dX4_kindOf_47 (by decide) (by omega) (by decide) (fun c47 => ?_) (fun c47 => ?_)
            · skip
              refine z_iconst 3 hG dX4_kindOf_54 ?_
              exact hE _ _ _ _ dX4_kindOf_55 (k8 c3 c15 c21 c31 c37 c47)
            · skip
              refine z_iconst 2 hG dX4_kindOf_50 ?_
              refine z_goto (tgt := 55) hG dX4_kindOf_51 (by decide) ?_
              exact hE _ _ _ _ dX4_kindOf_55 (k9 c3 c15 c21 c31 c37 c47)
          · skip
            refine z_iconst 1 hG dX4_kindOf_40 ?_
            refine z_goto (tgt := 55) hG dX4_kindOf_41 (by decide) ?_
            exact hE _ _ _ _ dX4_kindOf_55 (k10 c3 c15 c21 c31 c37)
      · skip
        refine z_iconst 0 hG dX4_kindOf_24 ?_
        refine z_goto (tgt := 55) hG dX4_kindOf_25 (by decide) ?_
        exact hE _ _ _ _ dX4_kindOf_55 (k11 c3 c15 c21)
  · skip
    refine z_iload_n 0 hG dX4_kindOf_6 rfl rfl ?_
    refine z_bipush 90 hG dX4_kindOf_7 (by decide) ?_
    refine z_icmp_le (tgt := 24) hG dX4_kindOf_9 (by decide) (by omega) (by decide) (fun c9 => ?_) (fun c9 => ?_)
    · skip
      refine z_iconst 0 hG dX4_kindOf_24 ?_
      refine z_goto (tgt := 55) hG dX4_kindOf_25 (by decide) ?_
      exact hE _ _ _ _ dX4_kindOf_55 (k12 c3 c9)
    · skip
      refine z_iload_n 0 hG dX4_kindOf_12 rfl rfl ?_
      refine z_bipush 97 hG dX4_kindOf_13 (by decide) ?_
      refine z_icmp_lt (tgt := 28) hG dX4_kindOf_15 (by decide) (by omega) (by decide) (fun c15 => ?_) (fun c15 => ?_)
      · skip
        refine z_iload_n 0 hG dX4_kindOf_28 rfl rfl ?_
        refine z_bipush 48 hG dX4_kindOf_29 (by decide) ?_
        refine z_icmp_lt (tgt := 44) hG dX4_kindOf_31 (by decide) (by omega) (by decide) (fun c31 => ?_) (fun c31 => ?_)
        · skip
          refine z_iload_n 0 hG dX4_kindOf_44 rfl rfl ?_
          refine z_bipush 32 hG dX4_kindOf_45 (by decide) ?_
          refine z_icmp_ne (tgt := 54) hG dX4_kindOf_47 (by decide) (by omega) (by decide) (fun c47 => ?_) (fun c47 => ?_)
          · skip
            refine z_iconst 3 hG dX4_kindOf_54 ?_
            exact hE _ _ _ _ dX4_kindOf_55 (k13 c3 c9 c15 c31 c47)
          · skip
            refine z_iconst 2 hG dX4_kindOf_50 ?_
            refine z_goto (tgt := 55) hG dX4_kindOf_51 (by decide) ?_
            exact hE _ _ _ _ dX4_kindOf_55 (k14 c3 c9 c15 c31 c47)
        · skip
          refine z_iload_n 0 hG dX4_kindOf_34 rfl rfl ?_
          refine z_bipush 57 hG dX4_kindOf_35 (by decide) ?_
          refine z_icmp_gt (tgt := 44) hG dX4_kindOf_37 (by decide) (by omega) (by decide) (fun c37 => ?_) (fun c37 => ?_)
          · skip
            refine z_iload_n 0 hG dX4_kindOf_44 rfl rfl ?_
            refine z_bipush 32 hG dX4_kindOf_45 (by decide) ?_
            refine z_icmp_ne (tgt := 54) hG dX4_kindOf_47 (by decide) (by omega) (by decide) (fun c47 => ?_) (fun c47 => ?_)
            · skip
              refine z_iconst 3 hG dX4_kindOf_54 ?_
              exact hE _ _ _ _ dX4_kindOf_55 (k15 c3 c9 c15 c31 c37 c47)
            · skip
              refine z_iconst 2 hG dX4_kindOf_50 ?_
              refine z_goto (tgt := 55) hG dX4_kindOf_51 (by decide) ?_
              exact hE _ _ _ _ dX4_kindOf_55 (k16 c3 c9 c15 c31 c37 c47)
          · skip
            refine z_iconst 1 hG dX4_kindOf_40 ?_
            refine z_goto (tgt := 55) hG dX4_kindOf_41 (by decide) ?_
            exact hE _ _ _ _ dX4_kindOf_55 (k17 c3 c9 c15 c31 c37)
      · skip
        refine z_iload_n 0 hG dX4_kindOf_18 rfl rfl ?_
        refine z_bipush 122 hG dX4_kindOf_19 (by decide) ?_
        refine z_icmp_gt (tgt := 28) hG dX4_kindOf_21 (by decide) (by omega) (by decide) (fun c21 => ?_) (fun c21 => ?_)
        · skip
          refine z_iload_n 0 hG dX4_kindOf_28 rfl rfl ?_
          refine z_bipush 48 hG dX4_kindOf_29 (by decide) ?_
          refine z_icmp_lt (tgt := 44) hG dX4_kindOf_31 (by decide) (by omega) (by decide) (fun c31 => ?_) (fun c31 => ?_)
          · skip
            refine z_iload_n 0 hG dX4_kindOf_44 rfl rfl ?_
            refine z_bipush 32 hG dX4_kindOf_45 (by decide) ?_
            refine z_icmp_ne (tgt := 54) hG dX4_kindOf_47 (by decide) (by omega) (by decide) (fun c47 => ?_) (fun c47 => ?_)
            · skip
              refine z_iconst 3 hG dX4_kindOf_54 ?_
              exact hE _ _ _ _ dX4_kindOf_55 (k18 c3 c9 c15 c21 c31 c47)
            · skip
              refine z_iconst 2 hG dX4_kindOf_50 ?_
              refine z_goto (tgt := 55) hG dX4_kindOf_51 (by decide) ?_
              exact hE _ _ _ _ dX4_kindOf_55 (k19 c3 c9 c15 c21 c31 c47)
          · skip
            refine z_iload_n 0 hG dX4_kindOf_34 rfl rfl ?_
            refine z_bipush 57 hG dX4_kindOf_35 (by decide) ?_
            refine z_icmp_gt (tgt := 44) hG dX4_kindOf_37 (by decide) (by omega) (by decide) (fun c37 => ?_) (fun c37 => ?_)
            · skip
              refine z_iload_n 0 hG dX4_kindOf_44 rfl rfl ?_
              refine z_bipush 32 hG dX4_kindOf_45 (by decide) ?_
              refine z_icmp_ne (tgt := 54) hG dX4_kindOf_47 (by decide) (by omega) (by decide) (fun c47 => ?_) (fun c47 => ?_)
              · skip
                refine z_iconst 3 hG dX4_kindOf_54 ?_
                exact hE _ _ _ _ dX4_kindOf_55 (k20 c3 c9 c15 c21 c31 c37 c47)
              · skip
                refine z_iconst 2 hG dX4_kindOf_50 ?_
                refine z_goto (tgt := 55) hG dX4_kindOf_51 (by decide) ?_
                exact hE _ _ _ _ dX4_kindOf_55 (k21 c3 c9 c15 c21 c31 c37 c47)
            · skip
              refine z_iconst 1 hG dX4_kindOf_40 ?_
              refine z_goto (tgt := 55) hG dX4_kindOf_41 (by decide) ?_
              exact hE _ _ _ _ dX4_kindOf_55 (k22 c3 c9 c15 c21 c31 c37)
        · skip
          refine z_iconst 0 hG dX4_kindOf_24 ?_
          refine z_goto (tgt := 55) hG dX4_kindOf_25 (by decide) ?_
          exact hE _ _ _ _ dX4_kindOf_55 (k23 c3 c9 c15 c21)

theorem c_X4_kindOf {F : zFr} {I : zStore}  {c : Int}  (hr : zRg I) (h1 : -128 ≤ c ∧ c ≤ 127) : ∀ (l : Launch) (D : va_G) (cs : Nat → ClassId), l.stackTraces = false → zMt l yX4_kindOf cX4_kindOf 1 (some .int) rm_X4_kindOf D cs F I [.int (zI c)] (fun r I' => r = some (.int (zI (zkd c))) ∧ I' = I) :=
  fun l D cs hst => zMt.ofI hst (by decide +kernel) (Nat.le_of_ble_eq_true rfl) fun G hG hR hE => s_X4_kindOf hG hR hE hr h1
    (by intros; refine ⟨?_, rfl⟩; unfold zkd; (repeat' split) <;> first | rfl | (exfalso; omega))
    (by intros; refine ⟨?_, rfl⟩; unfold zkd; (repeat' split) <;> first | rfl | (exfalso; omega))
    (by intros; refine ⟨?_, rfl⟩; unfold zkd; (repeat' split) <;> first | rfl | (exfalso; omega))
    (by intros; refine ⟨?_, rfl⟩; unfold zkd; (repeat' split) <;> first | rfl | (exfalso; omega))
    (by intros; refine ⟨?_, rfl⟩; unfold zkd; (repeat' split) <;> first | rfl | (exfalso; omega))
    (by intros; refine ⟨?_, rfl⟩; unfold zkd; (repeat' split) <;> first | rfl | (exfalso; omega))
    (by intros; refine ⟨?_, rfl⟩; unfold zkd; (repeat' split) <;> first | rfl | (exfalso; omega))
    (by intros; refine ⟨?_, rfl⟩; unfold zkd; (repeat' split) <;> first | rfl | (exfalso; omega))
    (by intros; refine ⟨?_, rfl⟩; unfold zkd; (repeat' split) <;> first | rfl | (exfalso; omega))
    (by intros; refine ⟨?_, rfl⟩; unfold zkd; (repeat' split) <;> first | rfl | (exfalso; omega))
    (by intros; refine ⟨?_, rfl⟩; unfold zkd; (repeat' split) <;> first | rfl | (exfalso; omega))
    (by intros; refine ⟨?_, rfl⟩; unfold zkd; (repeat' split) <;> first | rfl | (exfalso; omega))
    (by intros; refine ⟨?_, rfl⟩; unfold zkd; (repeat' split) <;> first | rfl | (exfalso; omega))
    (by intros; refine ⟨?_, rfl⟩; unfold zkd; (repeat' split) <;> first | rfl | (exfalso; omega))
    (by intros; refine ⟨?_, rfl⟩; unfold zkd; (repeat' split) <;> first | rfl | (exfalso; omega))
    (by intros; refine ⟨?_, rfl⟩; unfold zkd; (repeat' split) <;> first | rfl | (exfalso; omega))
    (by intros; refine ⟨?_, rfl⟩; unfold zkd; (repeat' split) <;> first | rfl | (exfalso; omega))
    (by intros; refine ⟨?_, rfl⟩; unfold zkd; (repeat' split) <;> first | rfl | (exfalso; omega))
    (by intros; refine ⟨?_, rfl⟩; unfold zkd; (repeat' split) <;> first | rfl | (exfalso; omega))
    (by intros; refine ⟨?_, rfl⟩; unfold zkd; (repeat' split) <;> first | rfl | (exfalso; omega))
    (by intros; refine ⟨?_, rfl⟩; unfold zkd; (repeat' split) <;> first | rfl | (exfalso; omega))
    (by intros; refine ⟨?_, rfl⟩; unfold zkd; (repeat' split) <;> first | rfl | (exfalso; omega))
    (by intros; refine ⟨?_, rfl⟩; unfold zkd; (repeat' split) <;> first | rfl | (exfalso; omega))
abbrev rm_X4_lineCount : Room := { frames := 0, cells := 0, slots := 0, locals := 0 }
set_option maxRecDepth 100000 in
set_option maxHeartbeats 4000000 in
theorem s_X4_lineCount {G : zCx} {F : zFr} {I : zStore} {post : Option Value → zStore → Prop} (hG : zOK G "LineLearnerModel" cX4_lineCount 1) (hR : zRoom G rm_X4_lineCount) (hE : zRetI G F cX4_lineCount 0 0 post) (hL : zLayM F) (hr : zRg I)
    (k1 : post (some (.int (zI (I 110 3)))) (zup I 110 0 0)) :
    zW G F 0 0 I [(0, .ref (F.1 110))] [] 0 := by
  refine z_aload_n 0 hG dX4_lineCount_0 rfl rfl ?_
  refine z_iconst 0 hG dX4_lineCount_1 ?_
  refine z_putI hG zcl4 (zltM hL (by decide)) (zl110 hL) 0 (by decide) (ki := 0) rfl rfl kw677 rfl rfl dX4_lineCount_2 ?_
  refine z_aload_n 0 hG dX4_lineCount_5 rfl rfl ?_
  refine z_getI (v := I 110 3) hG zcl4 (zltM hL (by decide)) (zl110 hL) 3 (by decide) rfl rfl (zup_i (by decide)) kw680 dX4_lineCount_6 ?_
  exact hE _ _ _ _ dX4_lineCount_9 (k1)

theorem c_X4_lineCount {F : zFr} {I : zStore}    (hL : zLayM F) (hr : zRg I) : ∀ (l : Launch) (D : va_G) (cs : Nat → ClassId), l.stackTraces = false → zMt l yX4_lineCount cX4_lineCount 1 (some .int) rm_X4_lineCount D cs F I [.ref (F.1 110)] (fun r I' => r = some (.int (zI (I 110 3))) ∧ I' = zup I 110 0 0) :=
  fun l D cs hst => zMt.ofI hst (by decide +kernel) (Nat.le_of_ble_eq_true rfl) fun G hG hR hE => s_X4_lineCount hG hR hE hL hr
    (by intros; refine ⟨?_, ?_⟩ <;> (repeat' split) <;> first | rfl | (exfalso; omega) | exact zup_up _ _ _ _ _ | (simp only [zup_self]; done))
abbrev rm_X4_at : Room := { frames := 0, cells := 0, slots := 0, locals := 0 }
set_option maxRecDepth 100000 in
set_option maxHeartbeats 4000000 in
theorem s_X4_at {G : zCx} {F : zFr} {I : zStore} {post : Option Value → zStore → Prop}{f : Int} {s : Int} (hG : zOK G "LineLearnerModel" cX4_at 2) (hR : zRoom G rm_X4_at) (hE : zRetI G F cX4_at 0 0 post) (hr : zRg I)
    (k1 : post (some (.int (zI ((40 * f) + s)))) I) :
    zW G F 0 0 I [(0, .int (zI f)), (1, .int (zI s))] [] 0 := by
  refine z_bipush 40 hG dX4_at_0 (by decide) ?_
  refine z_iload_n 0 hG dX4_at_2 rfl rfl ?_
  refine z_imul hG dX4_at_3 ?_
  refine z_iload_n 1 hG dX4_at_4 rfl rfl ?_
  refine z_iadd hG dX4_at_5 ?_
  exact hE _ _ _ _ dX4_at_6 (k1)

theorem c_X4_at {F : zFr} {I : zStore}  {f : Int} {s : Int}  (hr : zRg I) : ∀ (l : Launch) (D : va_G) (cs : Nat → ClassId), l.stackTraces = false → zMt l yX4_at cX4_at 2 (some .int) rm_X4_at D cs F I [.int (zI f), .int (zI s)] (fun r I' => r = some (.int (zI (40 * f + s))) ∧ I' = I) :=
  fun l D cs hst => zMt.ofI hst (by decide +kernel) (Nat.le_of_ble_eq_true rfl) fun G hG hR hE => s_X4_at hG hR hE hr
    (by intros; refine ⟨?_, ?_⟩ <;> (repeat' split) <;> first | rfl | (exfalso; omega) | exact zup_up _ _ _ _ _ | (simp only [zup_self]; done))
abbrev rm_X4_cell : Room := { frames := 0, cells := 0, slots := 0, locals := 0 }
set_option maxRecDepth 100000 in
set_option maxHeartbeats 4000000 in
theorem s_X4_cell {G : zCx} {F : zFr} {I : zStore} {post : Option Value → zStore → Prop}{s : Int} {t : Int} (hG : zOK G "LineLearnerModel" cX4_cell 2) (hR : zRoom G rm_X4_cell) (hE : zRetI G F cX4_cell 0 0 post) (hr : zRg I)
    (k1 : post (some (.int (zI ((31 * s) + t)))) I) :
    zW G F 0 0 I [(0, .int (zI s)), (1, .int (zI t))] [] 0 := by
  refine z_bipush 31 hG dX4_cell_0 (by decide) ?_
  refine z_iload_n 0 hG dX4_cell_2 rfl rfl ?_
  refine z_imul hG dX4_cell_3 ?_
  refine z_iload_n 1 hG dX4_cell_4 rfl rfl ?_
  refine z_iadd hG dX4_cell_5 ?_
  exact hE _ _ _ _ dX4_cell_6 (k1)

theorem c_X4_cell {F : zFr} {I : zStore}  {s : Int} {t : Int}  (hr : zRg I) : ∀ (l : Launch) (D : va_G) (cs : Nat → ClassId), l.stackTraces = false → zMt l yX4_cell cX4_cell 2 (some .int) rm_X4_cell D cs F I [.int (zI s), .int (zI t)] (fun r I' => r = some (.int (zI (31 * s + t))) ∧ I' = I) :=
  fun l D cs hst => zMt.ofI hst (by decide +kernel) (Nat.le_of_ble_eq_true rfl) fun G hG hR hE => s_X4_cell hG hR hE hr
    (by intros; refine ⟨?_, ?_⟩ <;> (repeat' split) <;> first | rfl | (exfalso; omega) | exact zup_up _ _ _ _ _ | (simp only [zup_self]; done))
abbrev rm_X4_tokenOf : Room := { frames := 1, cells := 0, slots := 0, locals := 21 }
set_option maxRecDepth 100000 in
set_option maxHeartbeats 4000000 in
theorem s_X4_tokenOf {G : zCx} {F : zFr} {I : zStore} {post : Option Value → zStore → Prop}{f : Int} {s : Int} {line : Int} (hG : zOK G "LineLearnerModel" cX4_tokenOf 4) (hR : zRoom G rm_X4_tokenOf) (hE : zRetI G F cX4_tokenOf 0 0 post) (hL : zLayM F) (hr : zRg I) (h1 : 0 ≤ f ∧ f < 13) (h2 : 0 ≤ s ∧ s < 40) (h3 : 0 ≤ line ∧ line < 12)
    (k1 : post (some (.int (zI (I 122 ((12 * (40 * f + s)) + line))))) I) :
    zW G F 0 0 I [(0, .ref (F.1 110)), (1, .int (zI f)), (2, .int (zI s)), (3, .int (zI line))] [] 0 := by
  refine z_aload_n 0 hG dX4_tokenOf_0 rfl rfl ?_
  refine z_getR (t := 122) hG zcl4 (zltM hL (by decide)) (zl110 hL) 17 (by decide) rfl kw694 dX4_tokenOf_1 ?_
  refine z_bipush 12 hG dX4_tokenOf_4 (by decide) ?_
  refine z_iload_n 1 hG dX4_tokenOf_6 rfl rfl ?_
  refine z_iload_n 2 hG dX4_tokenOf_7 rfl rfl ?_
  refine z_callS [.int (zI f), .int (zI s)] hG hR (c_X4_at hr) hd_X4_at kw830 kw831 (by decide) (by decide) (by decide) (by decide) rfl rfl (Nat.le_of_ble_eq_true rfl) dX4_tokenOf_8 (fun r I' hp => ?_)
  rw [hp.1, hp.2]
  show zW G F 0 0 I [(0, .ref (F.1 110)), (1, .int (zI f)), (2, .int (zI s)), (3, .int (zI line))] [.int (zI (40 * f + s)), .int (zI 12), .ref (F.1 122)] 11
  refine z_imul hG dX4_tokenOf_11 ?_
  refine z_iload_n 3 hG dX4_tokenOf_12 rfl rfl ?_
  refine z_iadd hG dX4_tokenOf_13 ?_
  refine z_iald (v := I 122 ((12 * (40 * f + s)) + line)) hG (zltM hL (by decide)) (zl122 hL) (by decide) (by omega) rfl dX4_tokenOf_14 ?_
  exact hE _ _ _ _ dX4_tokenOf_15 (k1)

theorem c_X4_tokenOf {F : zFr} {I : zStore}  {f : Int} {s : Int} {line : Int}  (hL : zLayM F) (hr : zRg I) (h1 : 0 ≤ f ∧ f < 13) (h2 : 0 ≤ s ∧ s < 40) (h3 : 0 ≤ line ∧ line < 12) : ∀ (l : Launch) (D : va_G) (cs : Nat → ClassId), l.stackTraces = false → zMt l yX4_tokenOf cX4_tokenOf 4 (some .int) rm_X4_tokenOf D cs F I [.ref (F.1 110), .int (zI f), .int (zI s), .int (zI line)] (fun r I' => r = some (.int (zI (I 122 (12 * (40 * f + s) + line)))) ∧ I' = I) :=
  fun l D cs hst => zMt.ofI hst (by decide +kernel) (Nat.le_of_ble_eq_true rfl) fun G hG hR hE => s_X4_tokenOf hG hR hE hL hr h1 h2 h3
    (by intros; refine ⟨?_, ?_⟩ <;> (repeat' split) <;> first | rfl | (exfalso; omega) | exact zup_up _ _ _ _ _ | (simp only [zup_self]; done))
abbrev rm_X4_isToken : Room := { frames := 1, cells := 0, slots := 0, locals := 21 }
set_option maxRecDepth 100000 in
set_option maxHeartbeats 4000000 in
theorem s_X4_isToken {G : zCx} {F : zFr} {I : zStore} {post : Option Value → zStore → Prop}{line : Int} {token : Int} (hG : zOK G "LineLearnerModel" cX4_isToken 3) (hR : zRoom G rm_X4_isToken) (hE : zRetZ G F cX4_isToken 0 0 post) (hL : zLayM F) (hr : zRg I) (hl : -2147483648 ≤ line ∧ line < 2147483648) (ht : -2147483648 ≤ token ∧ token < 2147483648) (hn : 0 ≤ I 110 3 ∧ I 110 3 ≤ 12)
    (k1 : (¬ (0 ≤ line ∧ line < I 110 3)) → post (some (.int (zI 0))) I)
    (k2 : (0 ≤ line ∧ line < I 110 3) → (token < 0) → post (some (.int (zI 0))) I)
    (k3 : (0 ≤ line ∧ line < I 110 3) → (0 ≤ token) → ((I 114 line) ≤ token) → post (some (.int (zI 0))) I)
    (k4 : (0 ≤ line ∧ line < I 110 3) → (0 ≤ token) → (token < (I 114 line)) → post (some (.int (zI 1))) I) :
    zW G F 0 0 I [(0, .ref (F.1 110)), (1, .int (zI line)), (2, .int (zI token))] [] 0 := by
  refine z_aload_n 0 hG dX4_isToken_0 rfl rfl ?_
  refine z_iload_n 1 hG dX4_isToken_1 rfl rfl ?_
  refine z_callV [.int (zI line)] hG hR (c_X4_isLine hL hr (by first | assumption | omega | ((try simp only [zup_k, zup_i, zup_at, ne_eq, not_false_eq_true, Nat.reduceEqDiff]); simp only [zup_at]; omega))) hd_X4_isLine kw787 kw789 kp24 rfl (zltM hL (by decide)) (zl110 hL) (by decide) (by decide) (by decide) (by decide) rfl rfl (Nat.le_of_ble_eq_true rfl) dX4_isToken_2 (fun r I' hp => ?_)
  rw [hp.1, hp.2]
  show zW G F 0 0 I [(0, .ref (F.1 110)), (1, .int (zI line)), (2, .int (zI token))] [.int (zI (if 0 ≤ line ∧ line < I 110 3 then 1 else 0))] 5
  refine z_if_eq (tgt := 26) hG dX4_isToken_5 (by decide) (by omega) (fun c5 => ?_) (fun c5 => ?_)
  · skip
    have c5b := zif_n c5
    refine z_iconst 0 hG dX4_isToken_26 ?_
    exact hE _ _ _ _ dX4_isToken_27 (by first | decide | omega) (k1 c5b)
  · skip
    have c5b := zif_y c5
    refine z_iload_n 2 hG dX4_isToken_8 rfl rfl ?_
    refine z_if_lt (tgt := 26) hG dX4_isToken_9 (by decide) (by omega) (fun c9 => ?_) (fun c9 => ?_)
    · skip
      refine z_iconst 0 hG dX4_isToken_26 ?_
      exact hE _ _ _ _ dX4_isToken_27 (by first | decide | omega) (k2 c5b c9)
    · skip
      refine z_iload_n 2 hG dX4_isToken_12 rfl rfl ?_
      refine z_aload_n 0 hG dX4_isToken_13 rfl rfl ?_
      refine z_getR (t := 114) hG zcl4 (zltM hL (by decide)) (zl110 hL) 6 (by decide) rfl kw683 dX4_isToken_14 ?_
      refine z_iload_n 1 hG dX4_isToken_17 rfl rfl ?_
      refine z_iald (v := I 114 line) hG (zltM hL (by decide)) (zl114 hL) (by decide) (by omega) rfl dX4_isToken_18 ?_
      refine z_icmp_ge (tgt := 26) hG dX4_isToken_19 (by decide) (by omega) (hr _ _) (fun c19 => ?_) (fun c19 => ?_)
      · skip
        refine z_iconst 0 hG dX4_isToken_26 ?_
        exact hE _ _ _ _ dX4_isToken_27 (by first | decide | omega) (k3 c5b c9 c19)
      · skip
        refine z_iconst 1 hG dX4_isToken_22 ?_
        refine z_goto (tgt := 27) hG dX4_isToken_23 (by decide) ?_
        exact hE _ _ _ _ dX4_isToken_27 (by first | decide | omega) (k4 c5b c9 c19)

theorem c_X4_isToken {F : zFr} {I : zStore}  {line : Int} {token : Int}  (hL : zLayM F) (hr : zRg I) (hl : -2147483648 ≤ line ∧ line < 2147483648) (ht : -2147483648 ≤ token ∧ token < 2147483648) (hn : 0 ≤ I 110 3 ∧ I 110 3 ≤ 12) : ∀ (l : Launch) (D : va_G) (cs : Nat → ClassId), l.stackTraces = false → zMt l yX4_isToken cX4_isToken 3 (some .boolean) rm_X4_isToken D cs F I [.ref (F.1 110), .int (zI line), .int (zI token)] (fun r I' => r = some (.int (zI (if (0 ≤ line ∧ line < I 110 3) ∧ 0 ≤ token ∧ token < I 114 line then 1 else 0))) ∧ I' = I) :=
  fun l D cs hst => zMt.ofZ hst (by decide +kernel) (Nat.le_of_ble_eq_true rfl) fun G hG hR hE => s_X4_isToken hG hR hE hL hr hl ht hn
    (by intros; refine ⟨?_, ?_⟩ <;> (repeat' split) <;> first | rfl | (exfalso; omega) | exact zup_up _ _ _ _ _ | (simp only [zup_self]; done))
    (by intros; refine ⟨?_, ?_⟩ <;> (repeat' split) <;> first | rfl | (exfalso; omega) | exact zup_up _ _ _ _ _ | (simp only [zup_self]; done))
    (by intros; refine ⟨?_, ?_⟩ <;> (repeat' split) <;> first | rfl | (exfalso; omega) | exact zup_up _ _ _ _ _ | (simp only [zup_self]; done))
    (by intros; refine ⟨?_, ?_⟩ <;> (repeat' split) <;> first | rfl | (exfalso; omega) | exact zup_up _ _ _ _ _ | (simp only [zup_self]; done))
abbrev rm_X4_tokenCount : Room := { frames := 1, cells := 0, slots := 0, locals := 21 }
set_option maxRecDepth 100000 in
set_option maxHeartbeats 4000000 in
theorem s_X4_tokenCount {G : zCx} {F : zFr} {I : zStore} {post : Option Value → zStore → Prop}{line : Int} (hG : zOK G "LineLearnerModel" cX4_tokenCount 2) (hR : zRoom G rm_X4_tokenCount) (hE : zRetI G F cX4_tokenCount 0 0 post) (hL : zLayM F) (hr : zRg I) (hl : -2147483648 ≤ line ∧ line < 2147483648) (hn : 0 ≤ I 110 3 ∧ I 110 3 ≤ 12)
    (k1 : (¬ (0 ≤ line ∧ line < I 110 3)) → post (some (.int (zI 0))) (zup (zup I 110 0 0) 110 0 1))
    (k2 : (0 ≤ line ∧ line < I 110 3) → post (some (.int (zI (I 114 line)))) (zup I 110 0 0)) :
    zW G F 0 0 I [(0, .ref (F.1 110)), (1, .int (zI line))] [] 0 := by
  refine z_aload_n 0 hG dX4_tokenCount_0 rfl rfl ?_
  refine z_iconst 0 hG dX4_tokenCount_1 ?_
  refine z_putI hG zcl4 (zltM hL (by decide)) (zl110 hL) 0 (by decide) (ki := 0) rfl rfl kw677 rfl rfl dX4_tokenCount_2 ?_
  refine z_aload_n 0 hG dX4_tokenCount_5 rfl rfl ?_
  refine z_iload_n 1 hG dX4_tokenCount_6 rfl rfl ?_
  refine z_callV [.int (zI line)] hG hR (c_X4_isLine hL (zRg_up hr (by decide)) (by first | assumption | omega | ((try simp only [zup_k, zup_i, zup_at, ne_eq, not_false_eq_true, Nat.reduceEqDiff]); simp only [zup_at]; omega))) hd_X4_isLine kw787 kw789 kp24 rfl (zltM hL (by decide)) (zl110 hL) (by decide) (by decide) (by decide) (by decide) rfl rfl (Nat.le_of_ble_eq_true rfl) dX4_tokenCount_7 (fun r I' hp => ?_)
  rw [hp.1, hp.2]
  show zW G F 0 0 (zup I 110 0 0) [(0, .ref (F.1 110)), (1, .int (zI line))] [.int (zI (if 0 ≤ line ∧ line < I 110 3 then 1 else 0))] 10
  refine z_if_eq (tgt := 22) hG dX4_tokenCount_10 (by decide) (by omega) (fun c10 => ?_) (fun c10 => ?_)
  · skip
    have c10b := zif_n c10
    refine z_aload_n 0 hG dX4_tokenCount_22 rfl rfl ?_
    refine z_iconst 1 hG dX4_tokenCount_23 ?_
    refine z_callV [.int (zI 1)] hG hR (c_X4_fail hL (zRg_up hr (by decide)) (by first | assumption | omega | ((try simp only [zup_k, zup_i, zup_at, ne_eq, not_false_eq_true, Nat.reduceEqDiff]); simp only [zup_at]; omega))) hd_X4_fail kw772 kw774 kp23 rfl (zltM hL (by decide)) (zl110 hL) (by decide) (by decide) (by decide) (by decide) rfl rfl (Nat.le_of_ble_eq_true rfl) dX4_tokenCount_24 (fun r I' hp => ?_)
    rw [hp.1, hp.2]
    show zW G F 0 0 (zup (zup I 110 0 0) 110 0 1) [(0, .ref (F.1 110)), (1, .int (zI line))] [.int (zI 0)] 27
    exact hE _ _ _ _ dX4_tokenCount_27 (k1 c10b)
  · skip
    have c10b := zif_y c10
    refine z_aload_n 0 hG dX4_tokenCount_13 rfl rfl ?_
    refine z_getR (t := 114) hG zcl4 (zltM hL (by decide)) (zl110 hL) 6 (by decide) rfl kw683 dX4_tokenCount_14 ?_
    refine z_iload_n 1 hG dX4_tokenCount_17 rfl rfl ?_
    refine z_iald (v := I 114 line) hG (zltM hL (by decide)) (zl114 hL) (by decide) (by omega) (zup_k (by decide)) dX4_tokenCount_18 ?_
    refine z_goto (tgt := 27) hG dX4_tokenCount_19 (by decide) ?_
    exact hE _ _ _ _ dX4_tokenCount_27 (k2 c10b)

theorem c_X4_tokenCount {F : zFr} {I : zStore}  {line : Int}  (hL : zLayM F) (hr : zRg I) (hl : -2147483648 ≤ line ∧ line < 2147483648) (hn : 0 ≤ I 110 3 ∧ I 110 3 ≤ 12) : ∀ (l : Launch) (D : va_G) (cs : Nat → ClassId), l.stackTraces = false → zMt l yX4_tokenCount cX4_tokenCount 2 (some .int) rm_X4_tokenCount D cs F I [.ref (F.1 110), .int (zI line)] (fun r I' => r = some (.int (zI (if 0 ≤ line ∧ line < I 110 3 then I 114 line else 0))) ∧ I' = zup I 110 0 (if 0 ≤ line ∧ line < I 110 3 then 0 else 1)) :=
  fun l D cs hst => zMt.ofI hst (by decide +kernel) (Nat.le_of_ble_eq_true rfl) fun G hG hR hE => s_X4_tokenCount hG hR hE hL hr hl hn
    (by intros; refine ⟨?_, ?_⟩ <;> (repeat' split) <;> first | rfl | (exfalso; omega) | exact zup_up _ _ _ _ _ | (simp only [zup_self]; done))
    (by intros; refine ⟨?_, ?_⟩ <;> (repeat' split) <;> first | rfl | (exfalso; omega) | exact zup_up _ _ _ _ _ | (simp only [zup_self]; done))
abbrev rm_X4_tokenKind : Room := { frames := 2, cells := 0, slots := 0, locals := 43 }
set_option maxRecDepth 100000 in
set_option maxHeartbeats 4000000 in
theorem s_X4_tokenKind {G : zCx} {F : zFr} {I : zStore} {post : Option Value → zStore → Prop}{line : Int} {token : Int} (hG : zOK G "LineLearnerModel" cX4_tokenKind 3) (hR : zRoom G rm_X4_tokenKind) (hE : zRetI G F cX4_tokenKind 0 0 post) (hL : zLayM F) (hr : zRg I) (hl : -2147483648 ≤ line ∧ line < 2147483648) (ht : -2147483648 ≤ token ∧ token < 2147483648) (hn : 0 ≤ I 110 3 ∧ I 110 3 ≤ 12) (hm : ∀ _u : Unit, 0 ≤ line → line < I 110 3 → 0 ≤ I 114 line ∧ I 114 line ≤ 30)
    (k1 : (¬ ((0 ≤ line ∧ line < I 110 3) ∧ 0 ≤ token ∧ token < I 114 line)) → post (some (.int (zI 0))) (zup (zup I 110 0 0) 110 0 1))
    (k2 : ((0 ≤ line ∧ line < I 110 3) ∧ 0 ≤ token ∧ token < I 114 line) → post (some (.int (zI (I 115 ((30 * line) + token))))) (zup I 110 0 0)) :
    zW G F 0 0 I [(0, .ref (F.1 110)), (1, .int (zI line)), (2, .int (zI token))] [] 0 := by
  refine z_aload_n 0 hG dX4_tokenKind_0 rfl rfl ?_
  refine z_iconst 0 hG dX4_tokenKind_1 ?_
  refine z_putI hG zcl4 (zltM hL (by decide)) (zl110 hL) 0 (by decide) (ki := 0) rfl rfl kw677 rfl rfl dX4_tokenKind_2 ?_
  refine z_aload_n 0 hG dX4_tokenKind_5 rfl rfl ?_
  refine z_iload_n 1 hG dX4_tokenKind_6 rfl rfl ?_
  refine z_iload_n 2 hG dX4_tokenKind_7 rfl rfl ?_
  refine z_callV [.int (zI line), .int (zI token)] hG hR (c_X4_isToken hL (zRg_up hr (by decide)) (by first | assumption | omega | ((try simp only [zup_k, zup_i, zup_at, ne_eq, not_false_eq_true, Nat.reduceEqDiff]); simp only [zup_at]; omega)) (by first | assumption | omega | ((try simp only [zup_k, zup_i, zup_at, ne_eq, not_false_eq_true, Nat.reduceEqDiff]); simp only [zup_at]; omega)) (by first | assumption | omega | ((try simp only [zup_k, zup_i, zup_at, ne_eq, not_false_eq_true, Nat.reduceEqDiff]); simp only [zup_at]; omega))) hd_X4_isToken kw795 kw797 kp25 rfl (zltM hL (by decide)) (zl110 hL) (by decide) (by decide) (by decide) (by decide) rfl rfl (Nat.le_of_ble_eq_true rfl) dX4_tokenKind_8 (fun r I' hp => ?_)
  rw [hp.1, hp.2]
  show zW G F 0 0 (zup I 110 0 0) [(0, .ref (F.1 110)), (1, .int (zI line)), (2, .int (zI token))] [.int (zI (if (0 ≤ line ∧ line < I 110 3) ∧ 0 ≤ token ∧ token < I 114 line then 1 else 0))] 11
  refine z_if_eq (tgt := 28) hG dX4_tokenKind_11 (by decide) (by omega) (fun c11 => ?_) (fun c11 => ?_)
  · skip
    have c11b := zif_n c11
    refine z_aload_n 0 hG dX4_tokenKind_28 rfl rfl ?_
    refine z_iconst 1 hG dX4_tokenKind_29 ?_
    refine z_callV [.int (zI 1)] hG hR (c_X4_fail hL (zRg_up hr (by decide)) (by first | assumption | omega | ((try simp only [zup_k, zup_i, zup_at, ne_eq, not_false_eq_true, Nat.reduceEqDiff]); simp only [zup_at]; omega))) hd_X4_fail kw772 kw774 kp23 rfl (zltM hL (by decide)) (zl110 hL) (by decide) (by decide) (by decide) (by decide) rfl rfl (Nat.le_of_ble_eq_true rfl) dX4_tokenKind_30 (fun r I' hp => ?_)
    rw [hp.1, hp.2]
    show zW G F 0 0 (zup (zup I 110 0 0) 110 0 1) [(0, .ref (F.1 110)), (1, .int (zI line)), (2, .int (zI token))] [.int (zI 0)] 33
    exact hE _ _ _ _ dX4_tokenKind_33 (k1 c11b)
  · skip
    have c11b := zif_y c11
    have hm1 := hm () (by omega) (by omega)
    refine z_aload_n 0 hG dX4_tokenKind_14 rfl rfl ?_
    refine z_getR (t := 115) hG zcl4 (zltM hL (by decide)) (zl110 hL) 7 (by decide) rfl kw684 dX4_tokenKind_15 ?_
    refine z_bipush 30 hG dX4_tokenKind_18 (by decide) ?_
    refine z_iload_n 1 hG dX4_tokenKind_20 rfl rfl ?_
    refine z_imul hG dX4_tokenKind_21 ?_
    refine z_iload_n 2 hG dX4_tokenKind_22 rfl rfl ?_
    refine z_iadd hG dX4_tokenKind_23 ?_
    refine z_iald (v := I 115 ((30 * line) + token)) hG (zltM hL (by decide)) (zl115 hL) (by decide) (by omega) (zup_k (by decide)) dX4_tokenKind_24 ?_
    refine z_goto (tgt := 33) hG dX4_tokenKind_25 (by decide) ?_
    exact hE _ _ _ _ dX4_tokenKind_33 (k2 c11b)

theorem c_X4_tokenKind {F : zFr} {I : zStore}  {line : Int} {token : Int}  (hL : zLayM F) (hr : zRg I) (hl : -2147483648 ≤ line ∧ line < 2147483648) (ht : -2147483648 ≤ token ∧ token < 2147483648) (hn : 0 ≤ I 110 3 ∧ I 110 3 ≤ 12) (hm : ∀ _u : Unit, 0 ≤ line → line < I 110 3 → 0 ≤ I 114 line ∧ I 114 line ≤ 30) : ∀ (l : Launch) (D : va_G) (cs : Nat → ClassId), l.stackTraces = false → zMt l yX4_tokenKind cX4_tokenKind 3 (some .int) rm_X4_tokenKind D cs F I [.ref (F.1 110), .int (zI line), .int (zI token)] (fun r I' => r = some (.int (zI (if (0 ≤ line ∧ line < I 110 3) ∧ 0 ≤ token ∧ token < I 114 line then I 115 (30 * line + token) else 0))) ∧ I' = zup I 110 0 (if (0 ≤ line ∧ line < I 110 3) ∧ 0 ≤ token ∧ token < I 114 line then 0 else 1)) :=
  fun l D cs hst => zMt.ofI hst (by decide +kernel) (Nat.le_of_ble_eq_true rfl) fun G hG hR hE => s_X4_tokenKind hG hR hE hL hr hl ht hn hm
    (by intros; refine ⟨?_, ?_⟩ <;> (repeat' split) <;> first | rfl | (exfalso; omega) | exact zup_up _ _ _ _ _ | (simp only [zup_self]; done))
    (by intros; refine ⟨?_, ?_⟩ <;> (repeat' split) <;> first | rfl | (exfalso; omega) | exact zup_up _ _ _ _ _ | (simp only [zup_self]; done))
abbrev rm_X4_tokenStart : Room := { frames := 2, cells := 0, slots := 0, locals := 43 }
set_option maxRecDepth 100000 in
set_option maxHeartbeats 4000000 in
theorem s_X4_tokenStart {G : zCx} {F : zFr} {I : zStore} {post : Option Value → zStore → Prop}{line : Int} {token : Int} (hG : zOK G "LineLearnerModel" cX4_tokenStart 3) (hR : zRoom G rm_X4_tokenStart) (hE : zRetI G F cX4_tokenStart 0 0 post) (hL : zLayM F) (hr : zRg I) (hl : -2147483648 ≤ line ∧ line < 2147483648) (ht : -2147483648 ≤ token ∧ token < 2147483648) (hn : 0 ≤ I 110 3 ∧ I 110 3 ≤ 12) (hm : ∀ _u : Unit, 0 ≤ line → line < I 110 3 → 0 ≤ I 114 line ∧ I 114 line ≤ 30)
    (k1 : (¬ ((0 ≤ line ∧ line < I 110 3) ∧ 0 ≤ token ∧ token < I 114 line)) → post (some (.int (zI 0))) (zup (zup I 110 0 0) 110 0 1))
    (k2 : ((0 ≤ line ∧ line < I 110 3) ∧ 0 ≤ token ∧ token < I 114 line) → post (some (.int (zI (I 116 ((30 * line) + token))))) (zup I 110 0 0)) :
    zW G F 0 0 I [(0, .ref (F.1 110)), (1, .int (zI line)), (2, .int (zI token))] [] 0 := by
  refine z_aload_n 0 hG dX4_tokenStart_0 rfl rfl ?_
  refine z_iconst 0 hG dX4_tokenStart_1 ?_
  refine z_putI hG zcl4 (zltM hL (by decide)) (zl110 hL) 0 (by decide) (ki := 0) rfl rfl kw677 rfl rfl dX4_tokenStart_2 ?_
  refine z_aload_n 0 hG dX4_tokenStart_5 rfl rfl ?_
  refine z_iload_n 1 hG dX4_tokenStart_6 rfl rfl ?_
  refine z_iload_n 2 hG dX4_tokenStart_7 rfl rfl ?_
  refine z_callV [.int (zI line), .int (zI token)] hG hR (c_X4_isToken hL (zRg_up hr (by decide)) (by first | assumption | omega | ((try simp only [zup_k, zup_i, zup_at, ne_eq, not_false_eq_true, Nat.reduceEqDiff]); simp only [zup_at]; omega)) (by first | assumption | omega | ((try simp only [zup_k, zup_i, zup_at, ne_eq, not_false_eq_true, Nat.reduceEqDiff]); simp only [zup_at]; omega)) (by first | assumption | omega | ((try simp only [zup_k, zup_i, zup_at, ne_eq, not_false_eq_true, Nat.reduceEqDiff]); simp only [zup_at]; omega))) hd_X4_isToken kw795 kw797 kp25 rfl (zltM hL (by decide)) (zl110 hL) (by decide) (by decide) (by decide) (by decide) rfl rfl (Nat.le_of_ble_eq_true rfl) dX4_tokenStart_8 (fun r I' hp => ?_)
  rw [hp.1, hp.2]
  show zW G F 0 0 (zup I 110 0 0) [(0, .ref (F.1 110)), (1, .int (zI line)), (2, .int (zI token))] [.int (zI (if (0 ≤ line ∧ line < I 110 3) ∧ 0 ≤ token ∧ token < I 114 line then 1 else 0))] 11
  refine z_if_eq (tgt := 28) hG dX4_tokenStart_11 (by decide) (by omega) (fun c11 => ?_) (fun c11 => ?_)
  · skip
    have c11b := zif_n c11
    refine z_aload_n 0 hG dX4_tokenStart_28 rfl rfl ?_
    refine z_iconst 1 hG dX4_tokenStart_29 ?_
    refine z_callV [.int (zI 1)] hG hR (c_X4_fail hL (zRg_up hr (by decide)) (by first | assumption | omega | ((try simp only [zup_k, zup_i, zup_at, ne_eq, not_false_eq_true, Nat.reduceEqDiff]); simp only [zup_at]; omega))) hd_X4_fail kw772 kw774 kp23 rfl (zltM hL (by decide)) (zl110 hL) (by decide) (by decide) (by decide) (by decide) rfl rfl (Nat.le_of_ble_eq_true rfl) dX4_tokenStart_30 (fun r I' hp => ?_)
    rw [hp.1, hp.2]
    show zW G F 0 0 (zup (zup I 110 0 0) 110 0 1) [(0, .ref (F.1 110)), (1, .int (zI line)), (2, .int (zI token))] [.int (zI 0)] 33
    exact hE _ _ _ _ dX4_tokenStart_33 (k1 c11b)
  · skip
    have c11b := zif_y c11
    have hm1 := hm () (by omega) (by omega)
    refine z_aload_n 0 hG dX4_tokenStart_14 rfl rfl ?_
    refine z_getR (t := 116) hG zcl4 (zltM hL (by decide)) (zl110 hL) 8 (by decide) rfl kw685 dX4_tokenStart_15 ?_
    refine z_bipush 30 hG dX4_tokenStart_18 (by decide) ?_
    refine z_iload_n 1 hG dX4_tokenStart_20 rfl rfl ?_
    refine z_imul hG dX4_tokenStart_21 ?_
    refine z_iload_n 2 hG dX4_tokenStart_22 rfl rfl ?_
    refine z_iadd hG dX4_tokenStart_23 ?_
    refine z_iald (v := I 116 ((30 * line) + token)) hG (zltM hL (by decide)) (zl116 hL) (by decide) (by omega) (zup_k (by decide)) dX4_tokenStart_24 ?_
    refine z_goto (tgt := 33) hG dX4_tokenStart_25 (by decide) ?_
    exact hE _ _ _ _ dX4_tokenStart_33 (k2 c11b)

theorem c_X4_tokenStart {F : zFr} {I : zStore}  {line : Int} {token : Int}  (hL : zLayM F) (hr : zRg I) (hl : -2147483648 ≤ line ∧ line < 2147483648) (ht : -2147483648 ≤ token ∧ token < 2147483648) (hn : 0 ≤ I 110 3 ∧ I 110 3 ≤ 12) (hm : ∀ _u : Unit, 0 ≤ line → line < I 110 3 → 0 ≤ I 114 line ∧ I 114 line ≤ 30) : ∀ (l : Launch) (D : va_G) (cs : Nat → ClassId), l.stackTraces = false → zMt l yX4_tokenStart cX4_tokenStart 3 (some .int) rm_X4_tokenStart D cs F I [.ref (F.1 110), .int (zI line), .int (zI token)] (fun r I' => r = some (.int (zI (if (0 ≤ line ∧ line < I 110 3) ∧ 0 ≤ token ∧ token < I 114 line then I 116 (30 * line + token) else 0))) ∧ I' = zup I 110 0 (if (0 ≤ line ∧ line < I 110 3) ∧ 0 ≤ token ∧ token < I 114 line then 0 else 1)) :=
  fun l D cs hst => zMt.ofI hst (by decide +kernel) (Nat.le_of_ble_eq_true rfl) fun G hG hR hE => s_X4_tokenStart hG hR hE hL hr hl ht hn hm
    (by intros; refine ⟨?_, ?_⟩ <;> (repeat' split) <;> first | rfl | (exfalso; omega) | exact zup_up _ _ _ _ _ | (simp only [zup_self]; done))
    (by intros; refine ⟨?_, ?_⟩ <;> (repeat' split) <;> first | rfl | (exfalso; omega) | exact zup_up _ _ _ _ _ | (simp only [zup_self]; done))
