theorem zm_X1_44 : zMath "LineLearner$Format" 44 Lib.Math.min.name Lib.Math.min.code := ⟨kw518, kw226, kw12, kw227⟩
theorem zm_X1_50 : zMath "LineLearner$Format" 50 Lib.Math.max.name Lib.Math.max.code := ⟨kw519, kw248, kw12, kw249⟩
abbrev rm_X3_placeOf : Room := { frames := 0, cells := 0, slots := 0, locals := 0 }
set_option maxRecDepth 100000 in
set_option maxHeartbeats 4000000 in
theorem s_X3_placeOf {G : zCx} {F : zFr} {I : zStore} {post : Option Value → zStore → Prop}{line : Int} {token : Int} (hG : zOK G "LineLearner" cX3_placeOf 2) (hR : zRoom G rm_X3_placeOf) (hE : zRetI G F cX3_placeOf 0 0 post) (hr : zRg I)
    (k1 : post (some (.int (zI ((line * 30) + token)))) I) :
    zW G F 0 0 I [(0, .int (zI line)), (1, .int (zI token))] [] 0 := by
  refine z_iload_n 0 hG dX3_placeOf_0 rfl rfl ?_
  refine z_bipush 30 hG dX3_placeOf_1 (by decide) ?_
  refine z_imul hG dX3_placeOf_3 ?_
  refine z_iload_n 1 hG dX3_placeOf_4 rfl rfl ?_
  refine z_iadd hG dX3_placeOf_5 ?_
  exact hE _ _ _ _ dX3_placeOf_6 (k1)

theorem c_X3_placeOf {F : zFr} {I : zStore}  {line : Int} {token : Int}  (hr : zRg I) : ∀ (l : Launch) (D : va_G) (cs : Nat → ClassId), l.stackTraces = false → zMt l yX3_placeOf cX3_placeOf 2 (some .int) rm_X3_placeOf D cs F I [.int (zI line), .int (zI token)] (fun r I' => r = some (.int (zI ((line * 30) + token))) ∧ I' = I) :=
  fun l D cs hst => zMt.ofI hst (by decide +kernel) (Nat.le_of_ble_eq_true rfl) fun G hG hR hE => s_X3_placeOf hG hR hE hr
    (by intros; refine ⟨?_, ?_⟩ <;> (repeat' split) <;> first | rfl | (exfalso; omega) | (simp only [zup_self]; done) | (simp only [zpc, zsk]; (repeat' split) <;> first | rfl | (exfalso; omega)))
abbrev rm_X3_firstByteOf : Room := { frames := 0, cells := 0, slots := 0, locals := 0 }
set_option maxRecDepth 100000 in
set_option maxHeartbeats 4000000 in
theorem s_X3_firstByteOf {G : zCx} {F : zFr} {I : zStore} {post : Option Value → zStore → Prop}{line : Int} (hG : zOK G "LineLearner" cX3_firstByteOf 1) (hR : zRoom G rm_X3_firstByteOf) (hE : zRetI G F cX3_firstByteOf 0 0 post) (hr : zRg I)
    (k1 : post (some (.int (zI (line * 30)))) I) :
    zW G F 0 0 I [(0, .int (zI line))] [] 0 := by
  refine z_iload_n 0 hG dX3_firstByteOf_0 rfl rfl ?_
  refine z_bipush 30 hG dX3_firstByteOf_1 (by decide) ?_
  refine z_imul hG dX3_firstByteOf_3 ?_
  exact hE _ _ _ _ dX3_firstByteOf_4 (k1)

theorem c_X3_firstByteOf {F : zFr} {I : zStore}  {line : Int}  (hr : zRg I) : ∀ (l : Launch) (D : va_G) (cs : Nat → ClassId), l.stackTraces = false → zMt l yX3_firstByteOf cX3_firstByteOf 1 (some .int) rm_X3_firstByteOf D cs F I [.int (zI line)] (fun r I' => r = some (.int (zI (line * 30))) ∧ I' = I) :=
  fun l D cs hst => zMt.ofI hst (by decide +kernel) (Nat.le_of_ble_eq_true rfl) fun G hG hR hE => s_X3_firstByteOf hG hR hE hr
    (by intros; refine ⟨?_, ?_⟩ <;> (repeat' split) <;> first | rfl | (exfalso; omega) | (simp only [zup_self]; done) | (simp only [zpc, zsk]; (repeat' split) <;> first | rfl | (exfalso; omega)))
abbrev rm_X3_mixed : Room := { frames := 0, cells := 0, slots := 0, locals := 0 }
abbrev rm_X1_makeEmpty : Room := { frames := 0, cells := 0, slots := 0, locals := 0 }
set_option maxRecDepth 100000 in
set_option maxHeartbeats 4000000 in
theorem s_X1_makeEmpty {G : zCx} {F : zFr} {I : zStore} {post : Option Value → zStore → Prop}{b : Nat} (hG : zOK G "LineLearner$Format" cX1_makeEmpty 1) (hR : zRoom G rm_X1_makeEmpty) (hE : zRetV G F cX1_makeEmpty 0 0 post) (hr : zRg I) (hf_b : zFm F b)
    (k1 : post (none) (zup (zup I b 0 0) b 1 0)) :
    zW G F 0 0 I [(0, .ref (F.1 b))] [] 0 := by
  have hfb_b := hf_b.1
  refine z_aload_n 0 hG dX1_makeEmpty_0 rfl rfl ?_
  refine z_iconst 0 hG dX1_makeEmpty_1 ?_
  refine z_putI hG zcl1 (zfN0 hf_b) (zf0 hf_b) 0 (by decide) (ki := 0) rfl rfl kw118 rfl rfl dX1_makeEmpty_2 ?_
  refine z_aload_n 0 hG dX1_makeEmpty_5 rfl rfl ?_
  refine z_iconst 0 hG dX1_makeEmpty_6 ?_
  refine z_putI hG zcl1 (zfN0 hf_b) (zf0 hf_b) 1 (by decide) (ki := 1) rfl rfl kw121 rfl rfl dX1_makeEmpty_7 ?_
  exact hE _ _ _ dX1_makeEmpty_10 (k1)

theorem c_X1_makeEmpty {F : zFr} {I : zStore} {b : Nat}   (hr : zRg I) (hf_b : zFm F b) : ∀ (l : Launch) (D : va_G) (cs : Nat → ClassId), l.stackTraces = false → zMt l yX1_makeEmpty cX1_makeEmpty 1 none rm_X1_makeEmpty D cs F I [.ref (F.1 b)] (fun r I' => r = none ∧ I' = (zup (zup I b 0 0) b 1 0)) :=
  fun l D cs hst => zMt.ofV hst (by decide +kernel) (Nat.le_of_ble_eq_true rfl) fun G hG hR hE => s_X1_makeEmpty hG hR hE hr hf_b
    (by intros; refine ⟨?_, ?_⟩ <;> (repeat' split) <;> first | rfl | (exfalso; omega) | (simp only [zup_self]; done) | (simp only [zpc, zsk]; (repeat' split) <;> first | rfl | (exfalso; omega)))
abbrev rm_X1_canMiss : Room := { frames := 0, cells := 0, slots := 0, locals := 0 }
set_option maxRecDepth 100000 in
set_option maxHeartbeats 4000000 in
theorem s_X1_canMiss {G : zCx} {F : zFr} {I : zStore} {post : Option Value → zStore → Prop}{b : Nat} {id : Int} (hG : zOK G "LineLearner$Format" cX1_canMiss 2) (hR : zRoom G rm_X1_canMiss) (hE : zRetZ G F cX1_canMiss 0 0 post) (hr : zRg I) (hf_b : zFm F b) (h1 : 0 ≤ id ∧ id < 40)
    (k1 : ((I b 1) ≤ (I (b + 6) id)) → post (some (.int (zI 0))) I)
    (k2 : ((I (b + 6) id) < (I b 1)) → post (some (.int (zI 1))) I) :
    zW G F 0 0 I [(0, .ref (F.1 b)), (1, .int (zI id))] [] 0 := by
  have hfb_b := hf_b.1
  refine z_aload_n 0 hG dX1_canMiss_0 rfl rfl ?_
  refine z_getR (t := (b + 6)) hG zcl1 (zfN0 hf_b) (zf0 hf_b) 7 (by decide) rfl kw139 dX1_canMiss_1 ?_
  refine z_iload_n 1 hG dX1_canMiss_4 rfl rfl ?_
  refine z_iald (v := I (b + 6) id) hG (zfN6 hf_b) (zf6 hf_b) (by decide) (by omega) rfl dX1_canMiss_5 ?_
  refine z_aload_n 0 hG dX1_canMiss_6 rfl rfl ?_
  refine z_getI (v := I b 1) hG zcl1 (zfN0 hf_b) (zf0 hf_b) 1 (by decide) rfl rfl rfl kw121 dX1_canMiss_7 ?_
  refine z_icmp_ge (tgt := 17) hG dX1_canMiss_10 (by decide) (hr _ _) (hr _ _) (fun c10 => ?_) (fun c10 => ?_)
  · skip
    refine z_iconst 0 hG dX1_canMiss_17 ?_
    exact hE _ _ _ _ dX1_canMiss_18 (by first | decide | omega) (k1 c10)
  · skip
    refine z_iconst 1 hG dX1_canMiss_13 ?_
    refine z_goto (tgt := 18) hG dX1_canMiss_14 (by decide) ?_
    exact hE _ _ _ _ dX1_canMiss_18 (by first | decide | omega) (k2 c10)

theorem c_X1_canMiss {F : zFr} {I : zStore} {b : Nat} {id : Int}  (hr : zRg I) (hf_b : zFm F b) (h1 : 0 ≤ id ∧ id < 40) : ∀ (l : Launch) (D : va_G) (cs : Nat → ClassId), l.stackTraces = false → zMt l yX1_canMiss cX1_canMiss 2 (some .boolean) rm_X1_canMiss D cs F I [.ref (F.1 b), .int (zI id)] (fun r I' => r = some (.int (zI (if I (b + 6) id < I b 1 then 1 else 0))) ∧ I' = I) :=
  fun l D cs hst => zMt.ofZ hst (by decide +kernel) (Nat.le_of_ble_eq_true rfl) fun G hG hR hE => s_X1_canMiss hG hR hE hr hf_b h1
    (by intros; refine ⟨?_, ?_⟩ <;> (repeat' split) <;> first | rfl | (exfalso; omega) | (simp only [zup_self]; done) | (simp only [zpc, zsk]; (repeat' split) <;> first | rfl | (exfalso; omega)))
    (by intros; refine ⟨?_, ?_⟩ <;> (repeat' split) <;> first | rfl | (exfalso; omega) | (simp only [zup_self]; done) | (simp only [zpc, zsk]; (repeat' split) <;> first | rfl | (exfalso; omega)))
abbrev rm_X1_addSlot : Room := { frames := 0, cells := 0, slots := 0, locals := 0 }
set_option maxRecDepth 100000 in
set_option maxHeartbeats 4000000 in
theorem s_X1_addSlot {G : zCx} {F : zFr} {I : zStore} {post : Option Value → zStore → Prop}{b : Nat} {p : Int} (hG : zOK G "LineLearner$Format" cX1_addSlot 4) (hR : zRoom G rm_X1_addSlot) (hE : zRetI G F cX1_addSlot 0 0 post) (hL : zLay F) (hr : zRg I) (hf_b : zFm F b) (h1 : 0 ≤ I b 0 ∧ I b 0 < 40) (h2 : 0 ≤ p ∧ p < 360)
    (k1 : post (some (.int (zI (I b 0)))) (zup (zup (zup (zup (zup (zup I b 0 ((I b 0) + 1)) (b + 2) (I b 0) (I 6 p)) (b + 3) (I b 0) (I 9 p)) (b + 4) (I b 0) (I 8 p)) (b + 5) (I b 0) (I 8 p)) (b + 6) (I b 0) 1)) :
    zW G F 0 0 I [(0, .ref (F.1 b)), (1, .ref (F.1 2)), (2, .int (zI p))] [] 0 := by
  have hfb_b := hf_b.1
  refine z_aload_n 0 hG dX1_addSlot_0 rfl rfl ?_
  refine z_getI (v := I b 0) hG zcl1 (zfN0 hf_b) (zf0 hf_b) 0 (by decide) rfl rfl rfl kw118 dX1_addSlot_1 ?_
  refine z_istore_n (lv' := [(3, .int (zI (I b 0))), (0, .ref (F.1 b)), (1, .ref (F.1 2)), (2, .int (zI p))]) hG dX1_addSlot_4 rfl (by decide) rfl ?_
  refine z_aload_n 1 hG dX1_addSlot_5 rfl rfl ?_
  refine z_dup hG dX1_addSlot_6 rfl ?_
  refine z_getI (v := I b 0) hG zcl1 (zfN0 hf_b) (zf0 hf_b) 0 (by decide) rfl rfl rfl kw118 dX1_addSlot_7 ?_
  refine z_iconst 1 hG dX1_addSlot_10 ?_
  refine z_iadd hG dX1_addSlot_11 ?_
  refine z_putI hG zcl1 (zfN0 hf_b) (zf0 hf_b) 0 (by decide) (ki := 0) rfl rfl kw118 rfl rfl dX1_addSlot_12 ?_
  refine z_aload_n 1 hG dX1_addSlot_15 rfl rfl ?_
  refine z_getR (t := (b + 2)) hG zcl1 (zfN0 hf_b) (zf0 hf_b) 3 (by decide) rfl kw127 dX1_addSlot_16 ?_
  refine z_iload_n 0 hG dX1_addSlot_19 rfl rfl ?_
  refine z_aload_n 2 hG dX1_addSlot_20 rfl rfl ?_
  refine z_getRN (t := 6) hG zcl2 (zlt hL (by decide)) (zl2 hL) 4 (by decide) rfl kw38 dX1_addSlot_21 ?_
  refine z_iload_n 3 hG dX1_addSlot_24 rfl rfl ?_
  refine z_iald (v := I 6 p) hG (zlt hL (by decide)) (zl6 hL) (by decide) (by omega) (zup_k (by omega)) dX1_addSlot_25 ?_
  refine z_iast hG (zfN2 hf_b) (zf2 hf_b) (by decide) (by omega) dX1_addSlot_26 ?_
  refine z_aload_n 1 hG dX1_addSlot_27 rfl rfl ?_
  refine z_getR (t := (b + 3)) hG zcl1 (zfN0 hf_b) (zf0 hf_b) 4 (by decide) rfl kw130 dX1_addSlot_28 ?_
  refine z_iload_n 0 hG dX1_addSlot_31 rfl rfl ?_
  refine z_aload_n 2 hG dX1_addSlot_32 rfl rfl ?_
  refine z_getRN (t := 9) hG zcl2 (zlt hL (by decide)) (zl2 hL) 7 (by decide) rfl kw48 dX1_addSlot_33 ?_
  refine z_iload_n 3 hG dX1_addSlot_36 rfl rfl ?_
  refine z_iald (v := I 9 p) hG (zlt hL (by decide)) (zl9 hL) (by decide) (by omega) ((zup_k (by omega)).trans (zup_k (by omega))) dX1_addSlot_37 ?_
  refine z_iast hG (zfN3 hf_b) (zf3 hf_b) (by decide) (by omega) dX1_addSlot_38 ?_
  refine z_aload_n 1 hG dX1_addSlot_39 rfl rfl ?_
  refine z_getR (t := (b + 4)) hG zcl1 (zfN0 hf_b) (zf0 hf_b) 5 (by decide) rfl kw133 dX1_addSlot_40 ?_
  refine z_iload_n 0 hG dX1_addSlot_43 rfl rfl ?_
  refine z_aload_n 2 hG dX1_addSlot_44 rfl rfl ?_
  refine z_getRN (t := 8) hG zcl2 (zlt hL (by decide)) (zl2 hL) 6 (by decide) rfl kw44 dX1_addSlot_45 ?_
  refine z_iload_n 3 hG dX1_addSlot_48 rfl rfl ?_
  refine z_iald (v := I 8 p) hG (zlt hL (by decide)) (zl8 hL) (by decide) (by omega) ((zup_k (by omega)).trans ((zup_k (by omega)).trans (zup_k (by omega)))) dX1_addSlot_49 ?_
  refine z_iast hG (zfN4 hf_b) (zf4 hf_b) (by decide) (by omega) dX1_addSlot_50 ?_
  refine z_aload_n 1 hG dX1_addSlot_51 rfl rfl ?_
  refine z_getR (t := (b + 5)) hG zcl1 (zfN0 hf_b) (zf0 hf_b) 6 (by decide) rfl kw136 dX1_addSlot_52 ?_
  refine z_iload_n 0 hG dX1_addSlot_55 rfl rfl ?_
  refine z_aload_n 2 hG dX1_addSlot_56 rfl rfl ?_
  refine z_getRN (t := 8) hG zcl2 (zlt hL (by decide)) (zl2 hL) 6 (by decide) rfl kw44 dX1_addSlot_57 ?_
  refine z_iload_n 3 hG dX1_addSlot_60 rfl rfl ?_
  refine z_iald (v := I 8 p) hG (zlt hL (by decide)) (zl8 hL) (by decide) (by omega) ((zup_k (by omega)).trans ((zup_k (by omega)).trans ((zup_k (by omega)).trans (zup_k (by omega))))) dX1_addSlot_61 ?_
  refine z_iast hG (zfN5 hf_b) (zf5 hf_b) (by decide) (by omega) dX1_addSlot_62 ?_
  refine z_aload_n 1 hG dX1_addSlot_63 rfl rfl ?_
  refine z_getR (t := (b + 6)) hG zcl1 (zfN0 hf_b) (zf0 hf_b) 7 (by decide) rfl kw139 dX1_addSlot_64 ?_
  refine z_iload_n 0 hG dX1_addSlot_67 rfl rfl ?_
  refine z_iconst 1 hG dX1_addSlot_68 ?_
  refine z_iast hG (zfN6 hf_b) (zf6 hf_b) (by decide) (by omega) dX1_addSlot_69 ?_
  refine z_iload_n 0 hG dX1_addSlot_70 rfl rfl ?_
  exact hE _ _ _ _ dX1_addSlot_71 (k1)

theorem c_X1_addSlot {F : zFr} {I : zStore} {b : Nat} {p : Int}  (hL : zLay F) (hr : zRg I) (hf_b : zFm F b) (h1 : 0 ≤ I b 0 ∧ I b 0 < 40) (h2 : 0 ≤ p ∧ p < 360) : ∀ (l : Launch) (D : va_G) (cs : Nat → ClassId), l.stackTraces = false → zMt l yX1_addSlot cX1_addSlot 4 (some .int) rm_X1_addSlot D cs F I [.ref (F.1 b), .ref (F.1 2), .int (zI p)] (fun r I' => r = some (.int (zI (I b 0))) ∧ I' = (zup (zup (zup (zup (zup (zup I b 0 ((I b 0) + 1)) (b + 2) (I b 0) (I 6 p)) (b + 3) (I b 0) (I 9 p)) (b + 4) (I b 0) (I 8 p)) (b + 5) (I b 0) (I 8 p)) (b + 6) (I b 0) 1)) :=
  fun l D cs hst => zMt.ofI hst (by decide +kernel) (Nat.le_of_ble_eq_true rfl) fun G hG hR hE => s_X1_addSlot hG hR hE hL hr hf_b h1 h2
    (by intros; refine ⟨?_, ?_⟩ <;> (repeat' split) <;> first | rfl | (exfalso; omega) | (simp only [zup_self]; done) | (simp only [zpc, zsk]; (repeat' split) <;> first | rfl | (exfalso; omega)))
abbrev rm_X1_useSlot : Room := { frames := 1, cells := 0, slots := 0, locals := 21 }
set_option maxRecDepth 100000 in
set_option maxHeartbeats 4000000 in
theorem s_X1_useSlot {G : zCx} {F : zFr} {I : zStore} {post : Option Value → zStore → Prop}{b : Nat} {id : Int} {p : Int} (hG : zOK G "LineLearner$Format" cX1_useSlot 4) (hR : zRoom G rm_X1_useSlot) (hE : zRetV G F cX1_useSlot 0 0 post) (hL : zLay F) (hr : zRg I) (hf_b : zFm F b) (h1 : 0 ≤ id ∧ id < 40) (h2 : 0 ≤ p ∧ p < 360) (h3 : 0 ≤ I (b + 6) id ∧ I (b + 6) id < 100)
    (k1 : ((I (b + 3) id) = (I 9 p)) → post (none) (zup (zup (zup I (b + 4) id (min (I (b + 4) id) (I 8 p))) (b + 5) id (max (I (b + 5) id) (I 8 p))) (b + 6) id ((I (b + 6) id) + 1)))
    (k2 : ((I (b + 3) id) ≠ (I 9 p)) → post (none) (zup (zup (zup (zup I (b + 3) id (-1)) (b + 4) id (min (I (b + 4) id) (I 8 p))) (b + 5) id (max (I (b + 5) id) (I 8 p))) (b + 6) id ((I (b + 6) id) + 1))) :
    zW G F 0 0 I [(0, .ref (F.1 b)), (1, .int (zI id)), (2, .ref (F.1 2)), (3, .int (zI p))] [] 0 := by
  have hfb_b := hf_b.1
  refine z_aload_n 0 hG dX1_useSlot_0 rfl rfl ?_
  refine z_getR (t := (b + 3)) hG zcl1 (zfN0 hf_b) (zf0 hf_b) 4 (by decide) rfl kw130 dX1_useSlot_1 ?_
  refine z_iload_n 1 hG dX1_useSlot_4 rfl rfl ?_
  refine z_iald (v := I (b + 3) id) hG (zfN3 hf_b) (zf3 hf_b) (by decide) (by omega) rfl dX1_useSlot_5 ?_
  refine z_aload_n 2 hG dX1_useSlot_6 rfl rfl ?_
  refine z_getRN (t := 9) hG zcl2 (zlt hL (by decide)) (zl2 hL) 7 (by decide) rfl kw48 dX1_useSlot_7 ?_
  refine z_iload_n 3 hG dX1_useSlot_10 rfl rfl ?_
  refine z_iald (v := I 9 p) hG (zlt hL (by decide)) (zl9 hL) (by decide) (by omega) rfl dX1_useSlot_11 ?_
  refine z_icmp_eq (tgt := 22) hG dX1_useSlot_12 (by decide) (hr _ _) (hr _ _) (fun c12 => ?_) (fun c12 => ?_)
  · skip
    refine z_aload_n 0 hG dX1_useSlot_22 rfl rfl ?_
    refine z_getR (t := (b + 4)) hG zcl1 (zfN0 hf_b) (zf0 hf_b) 5 (by decide) rfl kw133 dX1_useSlot_23 ?_
    refine z_iload_n 1 hG dX1_useSlot_26 rfl rfl ?_
    refine z_aload_n 0 hG dX1_useSlot_27 rfl rfl ?_
    refine z_getR (t := (b + 4)) hG zcl1 (zfN0 hf_b) (zf0 hf_b) 5 (by decide) rfl kw133 dX1_useSlot_28 ?_
    refine z_iload_n 1 hG dX1_useSlot_31 rfl rfl ?_
    refine z_iald (v := I (b + 4) id) hG (zfN4 hf_b) (zf4 hf_b) (by decide) (by omega) rfl dX1_useSlot_32 ?_
    refine z_aload_n 2 hG dX1_useSlot_33 rfl rfl ?_
    refine z_getRN (t := 8) hG zcl2 (zlt hL (by decide)) (zl2 hL) 6 (by decide) rfl kw44 dX1_useSlot_34 ?_
    refine z_iload_n 3 hG dX1_useSlot_37 rfl rfl ?_
    refine z_iald (v := I 8 p) hG (zlt hL (by decide)) (zl8 hL) (by decide) (by omega) rfl dX1_useSlot_38 ?_
    refine z_min hG hR zm_X1_44 (by decide) (Nat.le_of_ble_eq_true rfl) (hr _ _) (hr _ _) dX1_useSlot_39 ?_
    refine z_iast hG (zfN4 hf_b) (zf4 hf_b) (by decide) (by omega) dX1_useSlot_42 ?_
    refine z_aload_n 0 hG dX1_useSlot_43 rfl rfl ?_
    refine z_getR (t := (b + 5)) hG zcl1 (zfN0 hf_b) (zf0 hf_b) 6 (by decide) rfl kw136 dX1_useSlot_44 ?_
    refine z_iload_n 1 hG dX1_useSlot_47 rfl rfl ?_
    refine z_aload_n 0 hG dX1_useSlot_48 rfl rfl ?_
    refine z_getR (t := (b + 5)) hG zcl1 (zfN0 hf_b) (zf0 hf_b) 6 (by decide) rfl kw136 dX1_useSlot_49 ?_
    refine z_iload_n 1 hG dX1_useSlot_52 rfl rfl ?_
    refine z_iald (v := I (b + 5) id) hG (zfN5 hf_b) (zf5 hf_b) (by decide) (by omega) (zup_k (by omega)) dX1_useSlot_53 ?_
    refine z_aload_n 2 hG dX1_useSlot_54 rfl rfl ?_
    refine z_getRN (t := 8) hG zcl2 (zlt hL (by decide)) (zl2 hL) 6 (by decide) rfl kw44 dX1_useSlot_55 ?_
    refine z_iload_n 3 hG dX1_useSlot_58 rfl rfl ?_
    refine z_iald (v := I 8 p) hG (zlt hL (by decide)) (zl8 hL) (by decide) (by omega) (zup_k (by omega)) dX1_useSlot_59 ?_
    refine z_max hG hR zm_X1_50 (by decide) (Nat.le_of_ble_eq_true rfl) (hr _ _) (hr _ _) dX1_useSlot_60 ?_
    refine z_iast hG (zfN5 hf_b) (zf5 hf_b) (by decide) (by omega) dX1_useSlot_63 ?_
    refine z_aload_n 0 hG dX1_useSlot_64 rfl rfl ?_
    refine z_getR (t := (b + 6)) hG zcl1 (zfN0 hf_b) (zf0 hf_b) 7 (by decide) rfl kw139 dX1_useSlot_65 ?_
    refine z_iload_n 1 hG dX1_useSlot_68 rfl rfl ?_
    refine z_dup2 hG dX1_useSlot_69 rfl rfl ?_
    refine z_iald (v := I (b + 6) id) hG (zfN6 hf_b) (zf6 hf_b) (by decide) (by omega) ((zup_k (by omega)).trans (zup_k (by omega))) dX1_useSlot_70 ?_
    refine z_iconst 1 hG dX1_useSlot_71 ?_
    refine z_iadd hG dX1_useSlot_72 ?_
    refine z_iast hG (zfN6 hf_b) (zf6 hf_b) (by decide) (by omega) dX1_useSlot_73 ?_
    exact hE _ _ _ dX1_useSlot_74 (k1 c12)
  · skip
    refine z_aload_n 0 hG dX1_useSlot_15 rfl rfl ?_
    refine z_getR (t := (b + 3)) hG zcl1 (zfN0 hf_b) (zf0 hf_b) 4 (by decide) rfl kw130 dX1_useSlot_16 ?_
    refine z_iload_n 1 hG dX1_useSlot_19 rfl rfl ?_
    refine z_iconst (-1) hG dX1_useSlot_20 ?_
    refine z_iast hG (zfN3 hf_b) (zf3 hf_b) (by decide) (by omega) dX1_useSlot_21 ?_
    refine z_aload_n 0 hG dX1_useSlot_22 rfl rfl ?_
    refine z_getR (t := (b + 4)) hG zcl1 (zfN0 hf_b) (zf0 hf_b) 5 (by decide) rfl kw133 dX1_useSlot_23 ?_
    refine z_iload_n 1 hG dX1_useSlot_26 rfl rfl ?_
    refine z_aload_n 0 hG dX1_useSlot_27 rfl rfl ?_
    refine z_getR (t := (b + 4)) hG zcl1 (zfN0 hf_b) (zf0 hf_b) 5 (by decide) rfl kw133 dX1_useSlot_28 ?_
    refine z_iload_n 1 hG dX1_useSlot_31 rfl rfl ?_
    refine z_iald (v := I (b + 4) id) hG (zfN4 hf_b) (zf4 hf_b) (by decide) (by omega) (zup_k (by omega)) dX1_useSlot_32 ?_
    refine z_aload_n 2 hG dX1_useSlot_33 rfl rfl ?_
    refine z_getRN (t := 8) hG zcl2 (zlt hL (by decide)) (zl2 hL) 6 (by decide) rfl kw44 dX1_useSlot_34 ?_
    refine z_iload_n 3 hG dX1_useSlot_37 rfl rfl ?_
    refine z_iald (v := I 8 p) hG (zlt hL (by decide)) (zl8 hL) (by decide) (by omega) (zup_k (by omega)) dX1_useSlot_38 ?_
    refine z_min hG hR zm_X1_44 (by decide) (Nat.le_of_ble_eq_true rfl) (hr _ _) (hr _ _) dX1_useSlot_39 ?_
    refine z_iast hG (zfN4 hf_b) (zf4 hf_b) (by decide) (by omega) dX1_useSlot_42 ?_
    refine z_aload_n 0 hG dX1_useSlot_43 rfl rfl ?_
    refine z_getR (t := (b + 5)) hG zcl1 (zfN0 hf_b) (zf0 hf_b) 6 (by decide) rfl kw136 dX1_useSlot_44 ?_
    refine z_iload_n 1 hG dX1_useSlot_47 rfl rfl ?_
    refine z_aload_n 0 hG dX1_useSlot_48 rfl rfl ?_
    refine z_getR (t := (b + 5)) hG zcl1 (zfN0 hf_b) (zf0 hf_b) 6 (by decide) rfl kw136 dX1_useSlot_49 ?_
    refine z_iload_n 1 hG dX1_useSlot_52 rfl rfl ?_
    refine z_iald (v := I (b + 5) id) hG (zfN5 hf_b) (zf5 hf_b) (by decide) (by omega) ((zup_k (by omega)).trans (zup_k (by omega))) dX1_useSlot_53 ?_
    refine z_aload_n 2 hG dX1_useSlot_54 rfl rfl ?_
    refine z_getRN (t := 8) hG zcl2 (zlt hL (by decide)) (zl2 hL) 6 (by decide) rfl kw44 dX1_useSlot_55 ?_
    refine z_iload_n 3 hG dX1_useSlot_58 rfl rfl ?_
    refine z_iald (v := I 8 p) hG (zlt hL (by decide)) (zl8 hL) (by decide) (by omega) ((zup_k (by omega)).trans (zup_k (by omega))) dX1_useSlot_59 ?_
    refine z_max hG hR zm_X1_50 (by decide) (Nat.le_of_ble_eq_true rfl) (hr _ _) (hr _ _) dX1_useSlot_60 ?_
    refine z_iast hG (zfN5 hf_b) (zf5 hf_b) (by decide) (by omega) dX1_useSlot_63 ?_
    refine z_aload_n 0 hG dX1_useSlot_64 rfl rfl ?_
    refine z_getR (t := (b + 6)) hG zcl1 (zfN0 hf_b) (zf0 hf_b) 7 (by decide) rfl kw139 dX1_useSlot_65 ?_
    refine z_iload_n 1 hG dX1_useSlot_68 rfl rfl ?_
    refine z_dup2 hG dX1_useSlot_69 rfl rfl ?_
    refine z_iald (v := I (b + 6) id) hG (zfN6 hf_b) (zf6 hf_b) (by decide) (by omega) ((zup_k (by omega)).trans ((zup_k (by omega)).trans (zup_k (by omega)))) dX1_useSlot_70 ?_
    refine z_iconst 1 hG dX1_useSlot_71 ?_
    refine z_iadd hG dX1_useSlot_72 ?_
    refine z_iast hG (zfN6 hf_b) (zf6 hf_b) (by decide) (by omega) dX1_useSlot_73 ?_
    exact hE _ _ _ dX1_useSlot_74 (k2 c12)

theorem c_X1_useSlot {F : zFr} {I : zStore} {b : Nat} {id : Int} {p : Int}  (hL : zLay F) (hr : zRg I) (hf_b : zFm F b) (h1 : 0 ≤ id ∧ id < 40) (h2 : 0 ≤ p ∧ p < 360) (h3 : 0 ≤ I (b + 6) id ∧ I (b + 6) id < 100) : ∀ (l : Launch) (D : va_G) (cs : Nat → ClassId), l.stackTraces = false → zMt l yX1_useSlot cX1_useSlot 4 none rm_X1_useSlot D cs F I [.ref (F.1 b), .int (zI id), .ref (F.1 2), .int (zI p)] (fun r I' => r = none ∧ I' = (zup (zup (zup (zup I (b + 3) id (if I (b + 3) id = I 9 p then I (b + 3) id else (-1))) (b + 4) id (min (I (b + 4) id) (I 8 p))) (b + 5) id (max (I (b + 5) id) (I 8 p))) (b + 6) id (I (b + 6) id + 1))) :=
  fun l D cs hst => zMt.ofV hst (by decide +kernel) (Nat.le_of_ble_eq_true rfl) fun G hG hR hE => s_X1_useSlot hG hR hE hL hr hf_b h1 h2 h3
    (by intros; refine ⟨?_, ?_⟩ <;> (repeat' split) <;> first | rfl | (exfalso; omega) | (simp only [zup_self]; done) | (simp only [zpc, zsk]; (repeat' split) <;> first | rfl | (exfalso; omega)))
    (by intros; refine ⟨?_, ?_⟩ <;> (repeat' split) <;> first | rfl | (exfalso; omega) | (simp only [zup_self]; done) | (simp only [zpc, zsk]; (repeat' split) <;> first | rfl | (exfalso; omega)))
abbrev rm_X0_skipCost : Room := { frames := 1, cells := 0, slots := 0, locals := 21 }
set_option maxRecDepth 100000 in
set_option maxHeartbeats 4000000 in
theorem s_X0_skipCost {G : zCx} {F : zFr} {I : zStore} {post : Option Value → zStore → Prop}{b : Nat} {id : Int} (hG : zOK G "LineLearner$Aligner" cX0_skipCost 3) (hR : zRoom G rm_X0_skipCost) (hE : zRetI G F cX0_skipCost 0 0 post) (hL : zLay F) (hr : zRg I) (hf_b : zFm F b) (h1 : 0 ≤ id ∧ id < 40) (h2 : 0 ≤ I 10 2 ∧ I 10 2 ≤ 20)
    (k1 : (¬ (I (b + 6) id < I b 1)) → post (some (.int (zI (I 10 2)))) I)
    (k2 : (I (b + 6) id < I b 1) → post (some (.int (zI 1))) I) :
    zW G F 0 0 I [(0, .ref (F.1 10)), (1, .ref (F.1 b)), (2, .int (zI id))] [] 0 := by
  have hfb_b := hf_b.1
  refine z_aload_n 1 hG dX0_skipCost_0 rfl rfl ?_
  refine z_iload_n 2 hG dX0_skipCost_1 rfl rfl ?_
  refine z_callV [.int (zI id)] hG hR (c_X1_canMiss hr hf_b (by omega)) hd_X1_canMiss kw221 kw222 kw223 rfl (zfN0 hf_b) (zf0 hf_b) (by decide) (by decide) (by decide) (by decide) rfl rfl (Nat.le_of_ble_eq_true rfl) dX0_skipCost_2 (fun r I' hp => ?_)
  rw [hp.1, hp.2]
  show zW G F 0 0 I [(0, .ref (F.1 10)), (1, .ref (F.1 b)), (2, .int (zI id))] [.int (zI (if I (b + 6) id < I b 1 then 1 else 0))] 5
  refine z_if_eq (tgt := 12) hG dX0_skipCost_5 (by decide) (by omega) (fun c5 => ?_) (fun c5 => ?_)
  · skip
    have c5b := zif_n c5
    refine z_aload_n 0 hG dX0_skipCost_12 rfl rfl ?_
    refine z_getI (v := I 10 2) hG zcl0 (zlt hL (by decide)) (zl10 hL) 2 (by decide) rfl rfl rfl kw79 dX0_skipCost_13 ?_
    exact hE _ _ _ _ dX0_skipCost_16 (k1 c5b)
  · skip
    have c5b := zif_y c5
    refine z_iconst 1 hG dX0_skipCost_8 ?_
    refine z_goto (tgt := 16) hG dX0_skipCost_9 (by decide) ?_
    exact hE _ _ _ _ dX0_skipCost_16 (k2 c5b)

theorem c_X0_skipCost {F : zFr} {I : zStore} {b : Nat} {id : Int}  (hL : zLay F) (hr : zRg I) (hf_b : zFm F b) (h1 : 0 ≤ id ∧ id < 40) (h2 : 0 ≤ I 10 2 ∧ I 10 2 ≤ 20) : ∀ (l : Launch) (D : va_G) (cs : Nat → ClassId), l.stackTraces = false → zMt l yX0_skipCost cX0_skipCost 3 (some .int) rm_X0_skipCost D cs F I [.ref (F.1 10), .ref (F.1 b), .int (zI id)] (fun r I' => r = some (.int (zI (zsk I b id))) ∧ I' = I) :=
  fun l D cs hst => zMt.ofI hst (by decide +kernel) (Nat.le_of_ble_eq_true rfl) fun G hG hR hE => s_X0_skipCost hG hR hE hL hr hf_b h1 h2
    (by intros; refine ⟨?_, ?_⟩ <;> (repeat' split) <;> first | rfl | (exfalso; omega) | (simp only [zup_self]; done) | (simp only [zpc, zsk]; (repeat' split) <;> first | rfl | (exfalso; omega)))
    (by intros; refine ⟨?_, ?_⟩ <;> (repeat' split) <;> first | rfl | (exfalso; omega) | (simp only [zup_self]; done) | (simp only [zpc, zsk]; (repeat' split) <;> first | rfl | (exfalso; omega)))
abbrev rm_X0_pairCost : Room := { frames := 0, cells := 0, slots := 0, locals := 0 }
set_option maxRecDepth 100000 in
set_option maxHeartbeats 4000000 in
theorem s_X0_pairCost {G : zCx} {F : zFr} {I : zStore} {post : Option Value → zStore → Prop}{b : Nat} {id : Int} {p : Int} (hG : zOK G "LineLearner$Aligner" cX0_pairCost 4) (hR : zRoom G rm_X0_pairCost) (hE : zRetI G F cX0_pairCost 0 0 post) (hL : zLay F) (hr : zRg I) (hf_b : zFm F b) (h1 : 0 ≤ id ∧ id < 40) (h2 : 0 ≤ p ∧ p < 360) (h3 : 0 ≤ I 10 1 ∧ I 10 1 ≤ 20)
    (k1 : ((I (b + 2) id) = (I 6 p)) → ((I (b + 3) id) ≠ (-1)) → ((I (b + 3) id) ≠ (I 9 p)) → post (some (.int (zI (I 10 1)))) I)
    (k2 : ((I (b + 2) id) = (I 6 p)) → ((I (b + 3) id) ≠ (-1)) → ((I (b + 3) id) = (I 9 p)) → post (some (.int (zI 0))) I)
    (k3 : ((I (b + 2) id) = (I 6 p)) → ((I (b + 3) id) = (-1)) → post (some (.int (zI 1))) I)
    (k4 : ((I (b + 2) id) ≠ (I 6 p)) → post (some (.int (zI (-1)))) I) :
    zW G F 0 0 I [(0, .ref (F.1 10)), (1, .ref (F.1 b)), (2, .int (zI id)), (3, .int (zI p))] [] 0 := by
  have hfb_b := hf_b.1
  refine z_aload_n 1 hG dX0_pairCost_0 rfl rfl ?_
  refine z_getRN (t := (b + 2)) hG zcl1 (zfN0 hf_b) (zf0 hf_b) 3 (by decide) rfl kw128 dX0_pairCost_1 ?_
  refine z_iload_n 2 hG dX0_pairCost_4 rfl rfl ?_
  refine z_iald (v := I (b + 2) id) hG (zfN2 hf_b) (zf2 hf_b) (by decide) (by omega) rfl dX0_pairCost_5 ?_
  refine z_aload_n 0 hG dX0_pairCost_6 rfl rfl ?_
  refine z_getR (t := 2) hG zcl0 (zlt hL (by decide)) (zl10 hL) 0 (by decide) rfl kw76 dX0_pairCost_7 ?_
  refine z_getRN (t := 6) hG zcl2 (zlt hL (by decide)) (zl2 hL) 4 (by decide) rfl kw39 dX0_pairCost_10 ?_
  refine z_iload_n 3 hG dX0_pairCost_13 rfl rfl ?_
  refine z_iald (v := I 6 p) hG (zlt hL (by decide)) (zl6 hL) (by decide) (by omega) rfl dX0_pairCost_14 ?_
  refine z_icmp_eq (tgt := 20) hG dX0_pairCost_15 (by decide) (hr _ _) (hr _ _) (fun c15 => ?_) (fun c15 => ?_)
  · skip
    refine z_aload_n 1 hG dX0_pairCost_20 rfl rfl ?_
    refine z_getRN (t := (b + 3)) hG zcl1 (zfN0 hf_b) (zf0 hf_b) 4 (by decide) rfl kw131 dX0_pairCost_21 ?_
    refine z_iload_n 2 hG dX0_pairCost_24 rfl rfl ?_
    refine z_iald (v := I (b + 3) id) hG (zfN3 hf_b) (zf3 hf_b) (by decide) (by omega) rfl dX0_pairCost_25 ?_
    refine z_iconst (-1) hG dX0_pairCost_26 ?_
    refine z_icmp_ne (tgt := 32) hG dX0_pairCost_27 (by decide) (hr _ _) (by decide) (fun c27 => ?_) (fun c27 => ?_)
    · skip
      refine z_aload_n 1 hG dX0_pairCost_32 rfl rfl ?_
      refine z_getRN (t := (b + 3)) hG zcl1 (zfN0 hf_b) (zf0 hf_b) 4 (by decide) rfl kw131 dX0_pairCost_33 ?_
      refine z_iload_n 2 hG dX0_pairCost_36 rfl rfl ?_
      refine z_iald (v := I (b + 3) id) hG (zfN3 hf_b) (zf3 hf_b) (by decide) (by omega) rfl dX0_pairCost_37 ?_
      refine z_aload_n 0 hG dX0_pairCost_38 rfl rfl ?_
      refine z_getR (t := 2) hG zcl0 (zlt hL (by decide)) (zl10 hL) 0 (by decide) rfl kw76 dX0_pairCost_39 ?_
      refine z_getRN (t := 9) hG zcl2 (zlt hL (by decide)) (zl2 hL) 7 (by decide) rfl kw49 dX0_pairCost_42 ?_
      refine z_iload_n 3 hG dX0_pairCost_45 rfl rfl ?_
      refine z_iald (v := I 9 p) hG (zlt hL (by decide)) (zl9 hL) (by decide) (by omega) rfl dX0_pairCost_46 ?_
      refine z_icmp_ne (tgt := 54) hG dX0_pairCost_47 (by decide) (hr _ _) (hr _ _) (fun c47 => ?_) (fun c47 => ?_)
      · skip
        refine z_aload_n 0 hG dX0_pairCost_54 rfl rfl ?_
        refine z_getI (v := I 10 1) hG zcl0 (zlt hL (by decide)) (zl10 hL) 1 (by decide) rfl rfl rfl kw77 dX0_pairCost_55 ?_
        exact hE _ _ _ _ dX0_pairCost_58 (k1 c15 c27 c47)
      · skip
        refine z_iconst 0 hG dX0_pairCost_50 ?_
        refine z_goto (tgt := 58) hG dX0_pairCost_51 (by decide) ?_
        exact hE _ _ _ _ dX0_pairCost_58 (k2 c15 c27 c47)
    · skip
      refine z_iconst 1 hG dX0_pairCost_30 ?_
      exact hE _ _ _ _ dX0_pairCost_31 (k3 c15 c27)
  · skip
    refine z_iconst (-1) hG dX0_pairCost_18 ?_
    exact hE _ _ _ _ dX0_pairCost_19 (k4 c15)

theorem c_X0_pairCost {F : zFr} {I : zStore} {b : Nat} {id : Int} {p : Int}  (hL : zLay F) (hr : zRg I) (hf_b : zFm F b) (h1 : 0 ≤ id ∧ id < 40) (h2 : 0 ≤ p ∧ p < 360) (h3 : 0 ≤ I 10 1 ∧ I 10 1 ≤ 20) : ∀ (l : Launch) (D : va_G) (cs : Nat → ClassId), l.stackTraces = false → zMt l yX0_pairCost cX0_pairCost 4 (some .int) rm_X0_pairCost D cs F I [.ref (F.1 10), .ref (F.1 b), .int (zI id), .int (zI p)] (fun r I' => r = some (.int (zI (zpc I b id p))) ∧ I' = I) :=
  fun l D cs hst => zMt.ofI hst (by decide +kernel) (Nat.le_of_ble_eq_true rfl) fun G hG hR hE => s_X0_pairCost hG hR hE hL hr hf_b h1 h2 h3
    (by intros; refine ⟨?_, ?_⟩ <;> (repeat' split) <;> first | rfl | (exfalso; omega) | (simp only [zup_self]; done) | (simp only [zpc, zsk]; (repeat' split) <;> first | rfl | (exfalso; omega)))
    (by intros; refine ⟨?_, ?_⟩ <;> (repeat' split) <;> first | rfl | (exfalso; omega) | (simp only [zup_self]; done) | (simp only [zpc, zsk]; (repeat' split) <;> first | rfl | (exfalso; omega)))
    (by intros; refine ⟨?_, ?_⟩ <;> (repeat' split) <;> first | rfl | (exfalso; omega) | (simp only [zup_self]; done) | (simp only [zpc, zsk]; (repeat' split) <;> first | rfl | (exfalso; omega)))
    (by intros; refine ⟨?_, ?_⟩ <;> (repeat' split) <;> first | rfl | (exfalso; omega) | (simp only [zup_self]; done) | (simp only [zpc, zsk]; (repeat' split) <;> first | rfl | (exfalso; omega)))
abbrev rm_X0_takeCosts : Room := { frames := 0, cells := 0, slots := 0, locals := 0 }
set_option maxRecDepth 100000 in
set_option maxHeartbeats 4000000 in
theorem s_X0_takeCosts {G : zCx} {F : zFr} {I : zStore} {post : Option Value → zStore → Prop}{nc : Int} {ns : Int} {nf : Int} (hG : zOK G "LineLearner$Aligner" cX0_takeCosts 5) (hR : zRoom G rm_X0_takeCosts) (hE : zRetZ G F cX0_takeCosts 0 0 post) (hL : zLay F) (hr : zRg I) (h1 : 0 ≤ nc ∧ nc ≤ 20) (h2 : 0 ≤ ns ∧ ns ≤ 20) (h3 : 0 ≤ nf ∧ nf ≤ 20)
    (k1 : (nc ≠ (I 10 1)) → post (some (.int (zI 1))) (zup (zup (zup I 10 1 nc) 10 2 ns) 10 3 nf))
    (k2 : (nc = (I 10 1)) → (ns ≠ (I 10 2)) → post (some (.int (zI 1))) (zup (zup (zup I 10 1 nc) 10 2 ns) 10 3 nf))
    (k3 : (nc = (I 10 1)) → (ns = (I 10 2)) → (nf = (I 10 3)) → post (some (.int (zI 0))) (zup (zup (zup I 10 1 nc) 10 2 ns) 10 3 nf))
    (k4 : (nc = (I 10 1)) → (ns = (I 10 2)) → (nf ≠ (I 10 3)) → post (some (.int (zI 1))) (zup (zup (zup I 10 1 nc) 10 2 ns) 10 3 nf)) :
    zW G F 0 0 I [(0, .ref (F.1 10)), (1, .int (zI nc)), (2, .int (zI ns)), (3, .int (zI nf))] [] 0 := by
  refine z_iload_n 1 hG dX0_takeCosts_0 rfl rfl ?_
  refine z_aload_n 0 hG dX0_takeCosts_1 rfl rfl ?_
  refine z_getI (v := I 10 1) hG zcl0 (zlt hL (by decide)) (zl10 hL) 1 (by decide) rfl rfl rfl kw77 dX0_takeCosts_2 ?_
  refine z_icmp_ne (tgt := 24) hG dX0_takeCosts_5 (by decide) (by omega) (hr _ _) (fun c5 => ?_) (fun c5 => ?_)
  · skip
    refine z_iconst 1 hG dX0_takeCosts_24 ?_
    refine z_goto (tgt := 29) hG dX0_takeCosts_25 (by decide) ?_
    refine z_istore (lv' := [(4, .int (zI 1)), (0, .ref (F.1 10)), (1, .int (zI nc)), (2, .int (zI ns)), (3, .int (zI nf))]) hG dX0_takeCosts_29 (by decide) rfl ?_
    refine z_aload_n 1 hG dX0_takeCosts_31 rfl rfl ?_
    refine z_iload_n 2 hG dX0_takeCosts_32 rfl rfl ?_
    refine z_putI hG zcl0 (zlt hL (by decide)) (zl10 hL) 1 (by decide) (ki := 1) rfl rfl kw77 rfl rfl dX0_takeCosts_33 ?_
    refine z_aload_n 1 hG dX0_takeCosts_36 rfl rfl ?_
    refine z_iload_n 3 hG dX0_takeCosts_37 rfl rfl ?_
    refine z_putI hG zcl0 (zlt hL (by decide)) (zl10 hL) 2 (by decide) (ki := 2) rfl rfl kw79 rfl rfl dX0_takeCosts_38 ?_
    refine z_aload_n 1 hG dX0_takeCosts_41 rfl rfl ?_
    refine z_iload_n 4 hG dX0_takeCosts_42 rfl rfl ?_
    refine z_putI hG zcl0 (zlt hL (by decide)) (zl10 hL) 3 (by decide) (ki := 3) rfl rfl kw81 rfl rfl dX0_takeCosts_43 ?_
    refine z_iload 0 hG dX0_takeCosts_46 rfl ?_
    exact hE _ _ _ _ dX0_takeCosts_48 (by first | decide | omega) (k1 c5)
  · skip
    refine z_iload_n 2 hG dX0_takeCosts_8 rfl rfl ?_
    refine z_aload_n 0 hG dX0_takeCosts_9 rfl rfl ?_
    refine z_getI (v := I 10 2) hG zcl0 (zlt hL (by decide)) (zl10 hL) 2 (by decide) rfl rfl rfl kw79 dX0_takeCosts_10 ?_
    refine z_icmp_ne (tgt := 24) hG dX0_takeCosts_13 (by decide) (by omega) (hr _ _) (fun c13 => ?_) (fun c13 => ?_)
    · skip
      refine z_iconst 1 hG dX0_takeCosts_24 ?_
      refine z_goto (tgt := 29) hG dX0_takeCosts_25 (by decide) ?_
      refine z_istore (lv' := [(4, .int (zI 1)), (0, .ref (F.1 10)), (1, .int (zI nc)), (2, .int (zI ns)), (3, .int (zI nf))]) hG dX0_takeCosts_29 (by decide) rfl ?_
      refine z_aload_n 1 hG dX0_takeCosts_31 rfl rfl ?_
      refine z_iload_n 2 hG dX0_takeCosts_32 rfl rfl ?_
      refine z_putI hG zcl0 (zlt hL (by decide)) (zl10 hL) 1 (by decide) (ki := 1) rfl rfl kw77 rfl rfl dX0_takeCosts_33 ?_
      refine z_aload_n 1 hG dX0_takeCosts_36 rfl rfl ?_
      refine z_iload_n 3 hG dX0_takeCosts_37 rfl rfl ?_
      refine z_putI hG zcl0 (zlt hL (by decide)) (zl10 hL) 2 (by decide) (ki := 2) rfl rfl kw79 rfl rfl dX0_takeCosts_38 ?_
      refine z_aload_n 1 hG dX0_takeCosts_41 rfl rfl ?_
      refine z_iload_n 4 hG dX0_takeCosts_42 rfl rfl ?_
      refine z_putI hG zcl0 (zlt hL (by decide)) (zl10 hL) 3 (by decide) (ki := 3) rfl rfl kw81 rfl rfl dX0_takeCosts_43 ?_
      refine z_iload 0 hG dX0_takeCosts_46 rfl ?_
      exact hE _ _ _ _ dX0_takeCosts_48 (by first | decide | omega) (k2 c5 c13)
    · skip
      refine z_iload_n 3 hG dX0_takeCosts_16 rfl rfl ?_
      refine z_aload_n 0 hG dX0_takeCosts_17 rfl rfl ?_
      refine z_getI (v := I 10 3) hG zcl0 (zlt hL (by decide)) (zl10 hL) 3 (by decide) rfl rfl rfl kw81 dX0_takeCosts_18 ?_
      refine z_icmp_eq (tgt := 28) hG dX0_takeCosts_21 (by decide) (by omega) (hr _ _) (fun c21 => ?_) (fun c21 => ?_)
      · skip
        refine z_iconst 0 hG dX0_takeCosts_28 ?_
        refine z_istore (lv' := [(4, .int (zI 0)), (0, .ref (F.1 10)), (1, .int (zI nc)), (2, .int (zI ns)), (3, .int (zI nf))]) hG dX0_takeCosts_29 (by decide) rfl ?_
        refine z_aload_n 1 hG dX0_takeCosts_31 rfl rfl ?_
        refine z_iload_n 2 hG dX0_takeCosts_32 rfl rfl ?_
        refine z_putI hG zcl0 (zlt hL (by decide)) (zl10 hL) 1 (by decide) (ki := 1) rfl rfl kw77 rfl rfl dX0_takeCosts_33 ?_
        refine z_aload_n 1 hG dX0_takeCosts_36 rfl rfl ?_
        refine z_iload_n 3 hG dX0_takeCosts_37 rfl rfl ?_
        refine z_putI hG zcl0 (zlt hL (by decide)) (zl10 hL) 2 (by decide) (ki := 2) rfl rfl kw79 rfl rfl dX0_takeCosts_38 ?_
        refine z_aload_n 1 hG dX0_takeCosts_41 rfl rfl ?_
        refine z_iload_n 4 hG dX0_takeCosts_42 rfl rfl ?_
        refine z_putI hG zcl0 (zlt hL (by decide)) (zl10 hL) 3 (by decide) (ki := 3) rfl rfl kw81 rfl rfl dX0_takeCosts_43 ?_
        refine z_iload 0 hG dX0_takeCosts_46 rfl ?_
        exact hE _ _ _ _ dX0_takeCosts_48 (by first | decide | omega) (k3 c5 c13 c21)
      · skip
        refine z_iconst 1 hG dX0_takeCosts_24 ?_
        refine z_goto (tgt := 29) hG dX0_takeCosts_25 (by decide) ?_
        refine z_istore (lv' := [(4, .int (zI 1)), (0, .ref (F.1 10)), (1, .int (zI nc)), (2, .int (zI ns)), (3, .int (zI nf))]) hG dX0_takeCosts_29 (by decide) rfl ?_
        refine z_aload_n 1 hG dX0_takeCosts_31 rfl rfl ?_
        refine z_iload_n 2 hG dX0_takeCosts_32 rfl rfl ?_
        refine z_putI hG zcl0 (zlt hL (by decide)) (zl10 hL) 1 (by decide) (ki := 1) rfl rfl kw77 rfl rfl dX0_takeCosts_33 ?_
        refine z_aload_n 1 hG dX0_takeCosts_36 rfl rfl ?_
        refine z_iload_n 3 hG dX0_takeCosts_37 rfl rfl ?_
        refine z_putI hG zcl0 (zlt hL (by decide)) (zl10 hL) 2 (by decide) (ki := 2) rfl rfl kw79 rfl rfl dX0_takeCosts_38 ?_
        refine z_aload_n 1 hG dX0_takeCosts_41 rfl rfl ?_
        refine z_iload_n 4 hG dX0_takeCosts_42 rfl rfl ?_
        refine z_putI hG zcl0 (zlt hL (by decide)) (zl10 hL) 3 (by decide) (ki := 3) rfl rfl kw81 rfl rfl dX0_takeCosts_43 ?_
        refine z_iload 0 hG dX0_takeCosts_46 rfl ?_
        exact hE _ _ _ _ dX0_takeCosts_48 (by first | decide | omega) (k4 c5 c13 c21)

theorem c_X0_takeCosts {F : zFr} {I : zStore}  {nc : Int} {ns : Int} {nf : Int}  (hL : zLay F) (hr : zRg I) (h1 : 0 ≤ nc ∧ nc ≤ 20) (h2 : 0 ≤ ns ∧ ns ≤ 20) (h3 : 0 ≤ nf ∧ nf ≤ 20) : ∀ (l : Launch) (D : va_G) (cs : Nat → ClassId), l.stackTraces = false → zMt l yX0_takeCosts cX0_takeCosts 5 (some .boolean) rm_X0_takeCosts D cs F I [.ref (F.1 10), .int (zI nc), .int (zI ns), .int (zI nf)] (fun r I' => r = some (.int (zI (if nc ≠ I 10 1 ∨ ns ≠ I 10 2 ∨ nf ≠ I 10 3 then 1 else 0))) ∧ I' = (zup (zup (zup I 10 1 nc) 10 2 ns) 10 3 nf)) :=
  fun l D cs hst => zMt.ofZ hst (by decide +kernel) (Nat.le_of_ble_eq_true rfl) fun G hG hR hE => s_X0_takeCosts hG hR hE hL hr h1 h2 h3
    (by intros; refine ⟨?_, ?_⟩ <;> (repeat' split) <;> first | rfl | (exfalso; omega) | (simp only [zup_self]; done) | (simp only [zpc, zsk]; (repeat' split) <;> first | rfl | (exfalso; omega)))
    (by intros; refine ⟨?_, ?_⟩ <;> (repeat' split) <;> first | rfl | (exfalso; omega) | (simp only [zup_self]; done) | (simp only [zpc, zsk]; (repeat' split) <;> first | rfl | (exfalso; omega)))
    (by intros; refine ⟨?_, ?_⟩ <;> (repeat' split) <;> first | rfl | (exfalso; omega) | (simp only [zup_self]; done) | (simp only [zpc, zsk]; (repeat' split) <;> first | rfl | (exfalso; omega)))
    (by intros; refine ⟨?_, ?_⟩ <;> (repeat' split) <;> first | rfl | (exfalso; omega) | (simp only [zup_self]; done) | (simp only [zpc, zsk]; (repeat' split) <;> first | rfl | (exfalso; omega)))
abbrev rm_X0_hasRoom : Room := { frames := 0, cells := 0, slots := 0, locals := 0 }
set_option maxRecDepth 100000 in
set_option maxHeartbeats 4000000 in
theorem s_X0_hasRoom {G : zCx} {F : zFr} {I : zStore} {post : Option Value → zStore → Prop}{b : Nat} (hG : zOK G "LineLearner$Aligner" cX0_hasRoom 2) (hR : zRoom G rm_X0_hasRoom) (hE : zRetZ G F cX0_hasRoom 0 0 post) (hL : zLay F) (hr : zRg I) (hf_b : zFm F b) (h1 : 0 ≤ I b 0 ∧ I b 0 ≤ 40) (h2 : 0 ≤ I 10 7 ∧ I 10 7 ≤ 70)
    (k1 : (40 < ((I b 0) + (I 10 7))) → post (some (.int (zI 0))) I)
    (k2 : (((I b 0) + (I 10 7)) ≤ 40) → post (some (.int (zI 1))) I) :
    zW G F 0 0 I [(0, .ref (F.1 10)), (1, .ref (F.1 b))] [] 0 := by
  have hfb_b := hf_b.1
  refine z_aload_n 1 hG dX0_hasRoom_0 rfl rfl ?_
  refine z_getIN (v := I b 0) hG zcl1 (zfN0 hf_b) (zf0 hf_b) 0 (by decide) rfl rfl rfl kw119 dX0_hasRoom_1 ?_
  refine z_aload_n 0 hG dX0_hasRoom_4 rfl rfl ?_
  refine z_getI (v := I 10 7) hG zcl0 (zlt hL (by decide)) (zl10 hL) 7 (by decide) rfl rfl rfl kw86 dX0_hasRoom_5 ?_
  refine z_iadd hG dX0_hasRoom_8 ?_
  refine z_bipush 40 hG dX0_hasRoom_9 (by decide) ?_
  refine z_icmp_gt (tgt := 18) hG dX0_hasRoom_11 (by decide) (by omega) (by decide) (fun c11 => ?_) (fun c11 => ?_)
  · skip
    refine z_iconst 0 hG dX0_hasRoom_18 ?_
    exact hE _ _ _ _ dX0_hasRoom_19 (by first | decide | omega) (k1 c11)
  · skip
    refine z_iconst 1 hG dX0_hasRoom_14 ?_
    refine z_goto (tgt := 19) hG dX0_hasRoom_15 (by decide) ?_
    exact hE _ _ _ _ dX0_hasRoom_19 (by first | decide | omega) (k2 c11)

theorem c_X0_hasRoom {F : zFr} {I : zStore} {b : Nat}   (hL : zLay F) (hr : zRg I) (hf_b : zFm F b) (h1 : 0 ≤ I b 0 ∧ I b 0 ≤ 40) (h2 : 0 ≤ I 10 7 ∧ I 10 7 ≤ 70) : ∀ (l : Launch) (D : va_G) (cs : Nat → ClassId), l.stackTraces = false → zMt l yX0_hasRoom cX0_hasRoom 2 (some .boolean) rm_X0_hasRoom D cs F I [.ref (F.1 10), .ref (F.1 b)] (fun r I' => r = some (.int (zI (if I b 0 + I 10 7 ≤ 40 then 1 else 0))) ∧ I' = I) :=
  fun l D cs hst => zMt.ofZ hst (by decide +kernel) (Nat.le_of_ble_eq_true rfl) fun G hG hR hE => s_X0_hasRoom hG hR hE hL hr hf_b h1 h2
    (by intros; refine ⟨?_, ?_⟩ <;> (repeat' split) <;> first | rfl | (exfalso; omega) | (simp only [zup_self]; done) | (simp only [zpc, zsk]; (repeat' split) <;> first | rfl | (exfalso; omega)))
    (by intros; refine ⟨?_, ?_⟩ <;> (repeat' split) <;> first | rfl | (exfalso; omega) | (simp only [zup_self]; done) | (simp only [zpc, zsk]; (repeat' split) <;> first | rfl | (exfalso; omega)))
abbrev rm_X0_canTake : Room := { frames := 0, cells := 0, slots := 0, locals := 0 }
set_option maxRecDepth 100000 in
set_option maxHeartbeats 4000000 in
theorem s_X0_canTake {G : zCx} {F : zFr} {I : zStore} {post : Option Value → zStore → Prop}{b : Nat} {id : Int} {p : Int} (hG : zOK G "LineLearner$Aligner" cX0_canTake 5) (hR : zRoom G rm_X0_canTake) (hE : zRetZ G F cX0_canTake 0 0 post) (hL : zLay F) (hr : zRg I) (hf_b : zFm F b) (h1 : 0 ≤ id ∧ id < 40) (h2 : 0 ≤ p ∧ p < 360)
    (k1 : ((I (b + 3) id) = (-1)) → ((I (b + 2) id) ≠ (I 6 p)) → post (some (.int (zI 0))) I)
    (k2 : ((I (b + 3) id) = (-1)) → ((I (b + 2) id) = (I 6 p)) → ((I 8 p) < (I (b + 4) id)) → post (some (.int (zI 0))) I)
    (k3 : ((I (b + 3) id) = (-1)) → ((I (b + 2) id) = (I 6 p)) → ((I (b + 4) id) ≤ (I 8 p)) → ((I (b + 5) id) < (I 8 p)) → post (some (.int (zI 0))) I)
    (k4 : ((I (b + 3) id) = (-1)) → ((I (b + 2) id) = (I 6 p)) → ((I (b + 4) id) ≤ (I 8 p)) → ((I 8 p) ≤ (I (b + 5) id)) → post (some (.int (zI 1))) I)
    (k5 : ((I (b + 3) id) ≠ (-1)) → ((I (b + 3) id) ≠ (I 9 p)) → post (some (.int (zI 0))) I)
    (k6 : ((I (b + 3) id) ≠ (-1)) → ((I (b + 3) id) = (I 9 p)) → post (some (.int (zI 1))) I) :
    zW G F 0 0 I [(0, .ref (F.1 10)), (1, .ref (F.1 b)), (2, .int (zI id)), (3, .int (zI p))] [] 0 := by
  have hfb_b := hf_b.1
  refine z_aload_n 1 hG dX0_canTake_0 rfl rfl ?_
  refine z_getRN (t := (b + 3)) hG zcl1 (zfN0 hf_b) (zf0 hf_b) 4 (by decide) rfl kw131 dX0_canTake_1 ?_
  refine z_iload_n 2 hG dX0_canTake_4 rfl rfl ?_
  refine z_iald (v := I (b + 3) id) hG (zfN3 hf_b) (zf3 hf_b) (by decide) (by omega) rfl dX0_canTake_5 ?_
  refine z_iconst (-1) hG dX0_canTake_6 ?_
  refine z_icmp_eq (tgt := 34) hG dX0_canTake_7 (by decide) (hr _ _) (by decide) (fun c7 => ?_) (fun c7 => ?_)
  · skip
    refine z_aload_n 0 hG dX0_canTake_34 rfl rfl ?_
    refine z_getR (t := 2) hG zcl0 (zlt hL (by decide)) (zl10 hL) 0 (by decide) rfl kw76 dX0_canTake_35 ?_
    refine z_getRN (t := 8) hG zcl2 (zlt hL (by decide)) (zl2 hL) 6 (by decide) rfl kw45 dX0_canTake_38 ?_
    refine z_iload_n 3 hG dX0_canTake_41 rfl rfl ?_
    refine z_iald (v := I 8 p) hG (zlt hL (by decide)) (zl8 hL) (by decide) (by omega) rfl dX0_canTake_42 ?_
    refine z_istore (lv' := [(4, .int (zI (I 8 p))), (0, .ref (F.1 10)), (1, .ref (F.1 b)), (2, .int (zI id)), (3, .int (zI p))]) hG dX0_canTake_43 (by decide) rfl ?_
    refine z_aload_n 2 hG dX0_canTake_45 rfl rfl ?_
    refine z_getRN (t := (b + 2)) hG zcl1 (zfN0 hf_b) (zf0 hf_b) 3 (by decide) rfl kw128 dX0_canTake_46 ?_
    refine z_iload_n 3 hG dX0_canTake_49 rfl rfl ?_
    refine z_iald (v := I (b + 2) id) hG (zfN2 hf_b) (zf2 hf_b) (by decide) (by omega) rfl dX0_canTake_50 ?_
    refine z_aload_n 1 hG dX0_canTake_51 rfl rfl ?_
    refine z_getR (t := 2) hG zcl0 (zlt hL (by decide)) (zl10 hL) 0 (by decide) rfl kw76 dX0_canTake_52 ?_
    refine z_getRN (t := 6) hG zcl2 (zlt hL (by decide)) (zl2 hL) 4 (by decide) rfl kw39 dX0_canTake_55 ?_
    refine z_iload_n 4 hG dX0_canTake_58 rfl rfl ?_
    refine z_iald (v := I 6 p) hG (zlt hL (by decide)) (zl6 hL) (by decide) (by omega) rfl dX0_canTake_59 ?_
    refine z_icmp_ne (tgt := 89) hG dX0_canTake_60 (by decide) (hr _ _) (hr _ _) (fun c60 => ?_) (fun c60 => ?_)
    · skip
      refine z_iconst 0 hG dX0_canTake_89 ?_
      exact hE _ _ _ _ dX0_canTake_90 (by first | decide | omega) (k1 c7 c60)
    · skip
      refine z_aload_n 2 hG dX0_canTake_63 rfl rfl ?_
      refine z_getRN (t := (b + 4)) hG zcl1 (zfN0 hf_b) (zf0 hf_b) 5 (by decide) rfl kw134 dX0_canTake_64 ?_
      refine z_iload_n 3 hG dX0_canTake_67 rfl rfl ?_
      refine z_iald (v := I (b + 4) id) hG (zfN4 hf_b) (zf4 hf_b) (by decide) (by omega) rfl dX0_canTake_68 ?_
      refine z_iload 0 hG dX0_canTake_69 rfl ?_
      refine z_icmp_gt (tgt := 89) hG dX0_canTake_71 (by decide) (hr _ _) (hr _ _) (fun c71 => ?_) (fun c71 => ?_)
      · skip
        refine z_iconst 0 hG dX0_canTake_89 ?_
        exact hE _ _ _ _ dX0_canTake_90 (by first | decide | omega) (k2 c7 c60 c71)
      · skip
        refine z_aload_n 2 hG dX0_canTake_74 rfl rfl ?_
        refine z_getRN (t := (b + 5)) hG zcl1 (zfN0 hf_b) (zf0 hf_b) 6 (by decide) rfl kw137 dX0_canTake_75 ?_
        refine z_iload_n 3 hG dX0_canTake_78 rfl rfl ?_
        refine z_iald (v := I (b + 5) id) hG (zfN5 hf_b) (zf5 hf_b) (by decide) (by omega) rfl dX0_canTake_79 ?_
        refine z_iload 0 hG dX0_canTake_80 rfl ?_
        refine z_icmp_lt (tgt := 89) hG dX0_canTake_82 (by decide) (hr _ _) (hr _ _) (fun c82 => ?_) (fun c82 => ?_)
        · skip
          refine z_iconst 0 hG dX0_canTake_89 ?_
          exact hE _ _ _ _ dX0_canTake_90 (by first | decide | omega) (k3 c7 c60 c71 c82)
        · skip
          refine z_iconst 1 hG dX0_canTake_85 ?_
          refine z_goto (tgt := 90) hG dX0_canTake_86 (by decide) ?_
          exact hE _ _ _ _ dX0_canTake_90 (by first | decide | omega) (k4 c7 c60 c71 c82)
  · skip
    refine z_aload_n 1 hG dX0_canTake_10 rfl rfl ?_
    refine z_getRN (t := (b + 3)) hG zcl1 (zfN0 hf_b) (zf0 hf_b) 4 (by decide) rfl kw131 dX0_canTake_11 ?_
    refine z_iload_n 2 hG dX0_canTake_14 rfl rfl ?_
    refine z_iald (v := I (b + 3) id) hG (zfN3 hf_b) (zf3 hf_b) (by decide) (by omega) rfl dX0_canTake_15 ?_
    refine z_aload_n 0 hG dX0_canTake_16 rfl rfl ?_
    refine z_getR (t := 2) hG zcl0 (zlt hL (by decide)) (zl10 hL) 0 (by decide) rfl kw76 dX0_canTake_17 ?_
    refine z_getRN (t := 9) hG zcl2 (zlt hL (by decide)) (zl2 hL) 7 (by decide) rfl kw49 dX0_canTake_20 ?_
    refine z_iload_n 3 hG dX0_canTake_23 rfl rfl ?_
    refine z_iald (v := I 9 p) hG (zlt hL (by decide)) (zl9 hL) (by decide) (by omega) rfl dX0_canTake_24 ?_
    refine z_icmp_ne (tgt := 32) hG dX0_canTake_25 (by decide) (hr _ _) (hr _ _) (fun c25 => ?_) (fun c25 => ?_)
    · skip
      refine z_iconst 0 hG dX0_canTake_32 ?_
      exact hE _ _ _ _ dX0_canTake_33 (by first | decide | omega) (k5 c7 c25)
    · skip
      refine z_iconst 1 hG dX0_canTake_28 ?_
      refine z_goto (tgt := 33) hG dX0_canTake_29 (by decide) ?_
      exact hE _ _ _ _ dX0_canTake_33 (by first | decide | omega) (k6 c7 c25)

theorem c_X0_canTake {F : zFr} {I : zStore} {b : Nat} {id : Int} {p : Int}  (hL : zLay F) (hr : zRg I) (hf_b : zFm F b) (h1 : 0 ≤ id ∧ id < 40) (h2 : 0 ≤ p ∧ p < 360) : ∀ (l : Launch) (D : va_G) (cs : Nat → ClassId), l.stackTraces = false → zMt l yX0_canTake cX0_canTake 5 (some .boolean) rm_X0_canTake D cs F I [.ref (F.1 10), .ref (F.1 b), .int (zI id), .int (zI p)] (fun r I' => r = some (.int (zI (ztk I b id p))) ∧ I' = I) :=
  fun l D cs hst => zMt.ofZ hst (by decide +kernel) (Nat.le_of_ble_eq_true rfl) fun G hG hR hE => s_X0_canTake hG hR hE hL hr hf_b h1 h2
    (by intros; refine ⟨?_, rfl⟩; simp only [ztk]; (repeat' split) <;> first | rfl | (exfalso; omega))
    (by intros; refine ⟨?_, rfl⟩; simp only [ztk]; (repeat' split) <;> first | rfl | (exfalso; omega))
    (by intros; refine ⟨?_, rfl⟩; simp only [ztk]; (repeat' split) <;> first | rfl | (exfalso; omega))
    (by intros; refine ⟨?_, rfl⟩; simp only [ztk]; (repeat' split) <;> first | rfl | (exfalso; omega))
    (by intros; refine ⟨?_, rfl⟩; simp only [ztk]; (repeat' split) <;> first | rfl | (exfalso; omega))
    (by intros; refine ⟨?_, rfl⟩; simp only [ztk]; (repeat' split) <;> first | rfl | (exfalso; omega))
