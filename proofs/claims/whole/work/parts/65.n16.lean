abbrev rm_X4_saving : Room := { frames := 5, cells := 1, slots := 4, locals := 115 }
set_option maxRecDepth 100000 in
set_option maxHeartbeats 4000000 in
theorem s_X4_saving_0 {G : zCx} {F : zFr} {I : zStore} {post : Option Value → zStore → Prop} (hG : zOK G "LineLearnerModel" cX4_saving 3) (hR : zRoom G rm_X4_saving) (hE : zRetD G F cX4_saving 1 4 post) (hL : zLayM F) (hr : zRg I)
    (k1 : zW G F 0 0 (zup I 110 0 0) [(0, .ref (F.1 110)), (1, .int (zI 0)), (2, .int (zI 0))] [] 9) :
    zW G F 0 0 I [(0, .ref (F.1 110))] [] 0 := by
  refine z_aload_n 0 hG dX4_saving_0 rfl rfl ?_
  refine z_iconst 0 hG dX4_saving_1 ?_
  refine z_putI hG zcl4 (zltM hL (by decide)) (zl110 hL) 0 (by decide) (ki := 0) rfl rfl kw677 rfl rfl dX4_saving_2 ?_
  refine z_iconst 0 hG dX4_saving_5 ?_
  refine z_istore_n (lv' := [(1, .int (zI 0)), (0, .ref (F.1 110))]) hG dX4_saving_6 rfl (by decide) rfl ?_
  refine z_iconst 0 hG dX4_saving_7 ?_
  refine z_istore_n (lv' := [(2, .int (zI 0)), (1, .int (zI 0)), (0, .ref (F.1 110))]) hG dX4_saving_8 rfl (by decide) rfl ?_
  refine z_perm (lv' := [(0, .ref (F.1 110)), (1, .int (zI 0)), (2, .int (zI 0))]) [2, 1, 0] rfl ?_
  exact k1

set_option maxRecDepth 100000 in
set_option maxHeartbeats 4000000 in
theorem s_X4_saving_9 {G : zCx} {F : zFr} {I : zStore} {post : Option Value → zStore → Prop}{own line : Int} (hG : zOK G "LineLearnerModel" cX4_saving 3) (hR : zRoom G rm_X4_saving) (hE : zRetD G F cX4_saving 1 4 post) (hL : zLayM F) (hr : zRg I) (h1 : 0 ≤ line ∧ line ≤ 12) (hn : 0 ≤ I 110 3 ∧ I 110 3 ≤ 12)
    (k1 : ((I 110 3) ≤ line) → zW G F 0 0 I [(0, .ref (F.1 110)), (1, .int (zI own))] [] 52)
    (k2 : (line < (I 110 3)) → ((zand (zshr (I 119 0) line) 1) ≠ 1) → zW G F 0 0 I [(0, .ref (F.1 110)), (1, .int (zI own)), (2, .int (zI (line + 1)))] [] 9)
    (k3 : (line < (I 110 3)) → ((zand (zshr (I 119 0) line) 1) = 1) → zW G F 0 0 I [(0, .ref (F.1 110)), (1, .int (zI (own + (8 + (8 * (I 112 line)))))), (2, .int (zI (line + 1)))] [] 9) :
    zW G F 0 0 I [(0, .ref (F.1 110)), (1, .int (zI own)), (2, .int (zI line))] [] 9 := by
  refine z_iload_n 2 hG dX4_saving_9 rfl rfl ?_
  refine z_aload_n 0 hG dX4_saving_10 rfl rfl ?_
  refine z_getI (v := I 110 3) hG zcl4 (zltM hL (by decide)) (zl110 hL) 3 (by decide) rfl rfl rfl kw680 dX4_saving_11 ?_
  refine z_icmp_ge (tgt := 52) hG dX4_saving_14 (by decide) (by omega) (hr _ _) (fun c14 => ?_) (fun c14 => ?_)
  · skip
    refine z_perm (lv' := [(0, .ref (F.1 110)), (1, .int (zI own))]) [0, 1] rfl ?_
    exact k1 c14
  · skip
    refine z_aload_n 0 hG dX4_saving_17 rfl rfl ?_
    refine z_getR (t := 119) hG zcl4 (zltM hL (by decide)) (zl110 hL) 14 (by decide) rfl kw691 dX4_saving_18 ?_
    refine z_iconst 0 hG dX4_saving_21 ?_
    refine z_iald (v := I 119 0) hG (zltM hL (by decide)) (zl119 hL) (by decide) (by decide) rfl dX4_saving_22 ?_
    refine z_iload_n 2 hG dX4_saving_23 rfl rfl ?_
    have zz9 := zI_rng (zI (zshr (I 119 0) line) &&& zI 1)
    have zz8 : -2147483648 ≤ zand (zshr (I 119 0) line) 1 ∧ zand (zshr (I 119 0) line) 1 < 2147483648 := zz9
    refine z_ishr hG dX4_saving_24 ?_
    refine z_iconst 1 hG dX4_saving_25 ?_
    refine z_iand hG dX4_saving_26 ?_
    refine z_iconst 1 hG dX4_saving_27 ?_
    refine z_icmp_ne (tgt := 46) hG dX4_saving_28 (by decide) (by omega) (by decide) (fun c28 => ?_) (fun c28 => ?_)
    · skip
      refine z_iinc (lv' := [(2, .int (zI (line + 1))), (0, .ref (F.1 110)), (1, .int (zI own))]) 2 hG dX4_saving_46 rfl (by decide) rfl ?_
      refine z_goto (tgt := 9) hG dX4_saving_49 (by decide) ?_
      refine z_perm (lv' := [(0, .ref (F.1 110)), (1, .int (zI own)), (2, .int (zI (line + 1)))]) [1, 2, 0] rfl ?_
      exact k2 c14 c28
    · skip
      refine z_iload_n 1 hG dX4_saving_31 rfl rfl ?_
      refine z_bipush 8 hG dX4_saving_32 (by decide) ?_
      refine z_bipush 8 hG dX4_saving_34 (by decide) ?_
      refine z_aload_n 0 hG dX4_saving_36 rfl rfl ?_
      refine z_getR (t := 112) hG zcl4 (zltM hL (by decide)) (zl110 hL) 4 (by decide) rfl kw681 dX4_saving_37 ?_
      refine z_iload_n 2 hG dX4_saving_40 rfl rfl ?_
      refine z_iald (v := I 112 line) hG (zltM hL (by decide)) (zl112 hL) (by decide) (by omega) rfl dX4_saving_41 ?_
      refine z_imul hG dX4_saving_42 ?_
      refine z_iadd hG dX4_saving_43 ?_
      refine z_iadd hG dX4_saving_44 ?_
      refine z_istore_n (lv' := [(1, .int (zI (own + (8 + (8 * (I 112 line)))))), (0, .ref (F.1 110)), (2, .int (zI line))]) hG dX4_saving_45 rfl (by decide) rfl ?_
      refine z_iinc (lv' := [(2, .int (zI (line + 1))), (1, .int (zI (own + (8 + (8 * (I 112 line)))))), (0, .ref (F.1 110))]) 2 hG dX4_saving_46 rfl (by decide) rfl ?_
      refine z_goto (tgt := 9) hG dX4_saving_49 (by decide) ?_
      refine z_perm (lv' := [(0, .ref (F.1 110)), (1, .int (zI (own + (8 + (8 * (I 112 line)))))), (2, .int (zI (line + 1)))]) [2, 1, 0] rfl ?_
      exact k3 c14 c28

set_option maxRecDepth 100000 in
set_option maxHeartbeats 4000000 in
theorem s_X4_saving_52 {G : zCx} {F : zFr} {I : zStore} {post : Option Value → zStore → Prop}{own : Int} {v67 : Int} (hG : zOK G "LineLearnerModel" cX4_saving 3) (hR : zRoom G rm_X4_saving) (hE : zRetD G F cX4_saving 1 4 post) (hL : zLayM F) (hr : zRg I) (ho : I 119 0 ≠ 0 → ∃ k : Nat, k < 400 ∧ own = ((8 * k + 8 : Nat) : Int))
    (kc67 : ((I 119 0) ≠ 0) → ∀ (l : Launch) (D : va_G) (cs : Nat → ClassId), l.stackTraces = false → zMt l yX4_allBits cX4_allBits 6 (some .int) rm_X4_allBits D cs F I [.ref (F.1 110)] (fun r I' => r = some (.int (zI v67)) ∧ I' = I))
    (hv67 : -2147483648 ≤ v67 ∧ v67 < 2147483648)
    (k3 : ((I 119 0) ≠ 0) → post (some (.double (FP.dsub FP.dconst1 (FP.ddiv (FP.i2d (zI v67)) (FP.i2d (zI own)))))) I)
    (k4 : ((I 119 0) = 0) → post (some (.double FP.dconst0)) I) :
    zW G F 0 0 I [(0, .ref (F.1 110)), (1, .int (zI own))] [] 52 := by
  refine z_aload_n 0 hG dX4_saving_52 rfl rfl ?_
  refine z_getR (t := 119) hG zcl4 (zltM hL (by decide)) (zl110 hL) 14 (by decide) rfl kw691 dX4_saving_53 ?_
  refine z_iconst 0 hG dX4_saving_56 ?_
  refine z_iald (v := I 119 0) hG (zltM hL (by decide)) (zl119 hL) (by decide) (by decide) rfl dX4_saving_57 ?_
  refine z_if_ne (tgt := 65) hG dX4_saving_58 (by decide) (hr _ _) (fun c58 => ?_) (fun c58 => ?_)
  · skip
    refine z_dconst1 hG dX4_saving_65 ?_
    refine z_aload_n 0 hG dX4_saving_66 rfl rfl ?_
    refine z_callV [] hG hR (kc67 c58) hd_X4_allBits kw946 kw948 kp39 rfl (zltM hL (by decide)) (zl110 hL) (by decide) (by decide) (by decide) (by decide) rfl rfl (Nat.le_of_ble_eq_true rfl) dX4_saving_67 (fun r I' hp => ?_)
    rw [hp.1, hp.2]
    show zW G F 1 4 I [(0, .ref (F.1 110)), (1, .int (zI own))] [.int (zI v67), .double FP.dconst1] 70
    refine z_i2d hG dX4_saving_70 ?_
    refine z_iload_n 1 hG dX4_saving_71 rfl rfl ?_
    refine z_i2d hG dX4_saving_72 ?_
    refine z_ddiv hG (zsv_q (ho c58)) dX4_saving_73 ?_
    refine z_dsub hG (zsv_s (ho c58)) dX4_saving_74 ?_
    exact hE _ _ _ _ dX4_saving_75 (k3 c58)
  · skip
    refine z_dconst0 hG dX4_saving_61 ?_
    refine z_goto (tgt := 75) hG dX4_saving_62 (by decide) ?_
    refine z_widen (k := 1) (n := 4) (by decide) (by decide) hR (by decide) (by decide) ?_
    exact hE _ _ _ _ dX4_saving_75 (k4 c58)

abbrev rm_X3_saving : Room := { frames := 3, cells := 0, slots := 0, locals := 69 }
set_option maxRecDepth 100000 in
set_option maxHeartbeats 4000000 in
theorem s_X3_saving_0 {G : zCx} {F : zFr} {I : zStore} {post : Option Value → zStore → Prop} (hG : zOK G "LineLearner" cX3_saving 3) (hR : zRoom G rm_X3_saving) (hE : zRetD G F cX3_saving 0 0 post) (hL : zLay F) (hr : zRg I)
    (k1 : zW G F 0 0 I [(0, .ref (F.1 0)), (1, .int (zI 0)), (2, .int (zI 0))] [] 4) :
    zW G F 0 0 I [(0, .ref (F.1 0))] [] 0 := by
  refine z_iconst 0 hG dX3_saving_0 ?_
  refine z_istore_n (lv' := [(1, .int (zI 0)), (0, .ref (F.1 0))]) hG dX3_saving_1 rfl (by decide) rfl ?_
  refine z_iconst 0 hG dX3_saving_2 ?_
  refine z_istore_n (lv' := [(2, .int (zI 0)), (1, .int (zI 0)), (0, .ref (F.1 0))]) hG dX3_saving_3 rfl (by decide) rfl ?_
  refine z_perm (lv' := [(0, .ref (F.1 0)), (1, .int (zI 0)), (2, .int (zI 0))]) [2, 1, 0] rfl ?_
  exact k1

set_option maxRecDepth 100000 in
set_option maxHeartbeats 4000000 in
theorem s_X3_saving_4 {G : zCx} {F : zFr} {I : zStore} {post : Option Value → zStore → Prop}{own line : Int} (hG : zOK G "LineLearner" cX3_saving 3) (hR : zRoom G rm_X3_saving) (hE : zRetD G F cX3_saving 0 0 post) (hL : zLay F) (hr : zRg I) (h1 : 0 ≤ line ∧ line ≤ 12) (hn : 0 ≤ I 2 0 ∧ I 2 0 ≤ 12)
    (k1 : ((I 2 0) ≤ line) → zW G F 0 0 I [(0, .ref (F.1 0)), (1, .int (zI own))] [] 48)
    (k2 : (line < (I 2 0)) → ((I 22 line) = 0) → zW G F 0 0 I [(0, .ref (F.1 0)), (1, .int (zI own)), (2, .int (zI (line + 1)))] [] 4)
    (k3 : (line < (I 2 0)) → ((I 22 line) ≠ 0) → zW G F 0 0 I [(0, .ref (F.1 0)), (1, .int (zI (own + (8 + (8 * (I 3 line)))))), (2, .int (zI (line + 1)))] [] 4) :
    zW G F 0 0 I [(0, .ref (F.1 0)), (1, .int (zI own)), (2, .int (zI line))] [] 4 := by
  refine z_iload_n 2 hG dX3_saving_4 rfl rfl ?_
  refine z_aload_n 0 hG dX3_saving_5 rfl rfl ?_
  refine z_getR (t := 2) hG zcl3 (zlt hL (by decide)) (zl0 hL) 2 (by decide) rfl kw161 dX3_saving_6 ?_
  refine z_getIN (v := I 2 0) hG zcl2 (zlt hL (by decide)) (zl2 hL) 0 (by decide) rfl rfl rfl kw29 dX3_saving_9 ?_
  refine z_icmp_ge (tgt := 48) hG dX3_saving_12 (by decide) (by omega) (hr _ _) (fun c12 => ?_) (fun c12 => ?_)
  · skip
    refine z_perm (lv' := [(0, .ref (F.1 0)), (1, .int (zI own))]) [0, 1] rfl ?_
    exact k1 c12
  · skip
    refine z_aload_n 0 hG dX3_saving_15 rfl rfl ?_
    refine z_getR (t := 22) hG zcl3 (zlt hL (by decide)) (zl0 hL) 5 (by decide) rfl kw164 dX3_saving_16 ?_
    refine z_iload_n 2 hG dX3_saving_19 rfl rfl ?_
    refine z_zald (v := I 22 line) hG (zlt hL (by decide)) (zl22 hL) (by decide) (by omega) rfl dX3_saving_20 ?_
    refine z_if_eq (tgt := 42) hG dX3_saving_21 (by decide) (hr _ _) (fun c21 => ?_) (fun c21 => ?_)
    · skip
      refine z_iinc (lv' := [(2, .int (zI (line + 1))), (0, .ref (F.1 0)), (1, .int (zI own))]) 2 hG dX3_saving_42 rfl (by decide) rfl ?_
      refine z_goto (tgt := 4) hG dX3_saving_45 (by decide) ?_
      refine z_perm (lv' := [(0, .ref (F.1 0)), (1, .int (zI own)), (2, .int (zI (line + 1)))]) [1, 2, 0] rfl ?_
      exact k2 c12 c21
    · skip
      refine z_iload_n 1 hG dX3_saving_24 rfl rfl ?_
      refine z_bipush 8 hG dX3_saving_25 (by decide) ?_
      refine z_bipush 8 hG dX3_saving_27 (by decide) ?_
      refine z_aload_n 0 hG dX3_saving_29 rfl rfl ?_
      refine z_getR (t := 2) hG zcl3 (zlt hL (by decide)) (zl0 hL) 2 (by decide) rfl kw161 dX3_saving_30 ?_
      refine z_getRN (t := 3) hG zcl2 (zlt hL (by decide)) (zl2 hL) 1 (by decide) rfl kw31 dX3_saving_33 ?_
      refine z_iload_n 2 hG dX3_saving_36 rfl rfl ?_
      refine z_iald (v := I 3 line) hG (zlt hL (by decide)) (zl3 hL) (by decide) (by omega) rfl dX3_saving_37 ?_
      refine z_imul hG dX3_saving_38 ?_
      refine z_iadd hG dX3_saving_39 ?_
      refine z_iadd hG dX3_saving_40 ?_
      refine z_istore_n (lv' := [(1, .int (zI (own + (8 + (8 * (I 3 line)))))), (0, .ref (F.1 0)), (2, .int (zI line))]) hG dX3_saving_41 rfl (by decide) rfl ?_
      refine z_iinc (lv' := [(2, .int (zI (line + 1))), (1, .int (zI (own + (8 + (8 * (I 3 line)))))), (0, .ref (F.1 0))]) 2 hG dX3_saving_42 rfl (by decide) rfl ?_
      refine z_goto (tgt := 4) hG dX3_saving_45 (by decide) ?_
      refine z_perm (lv' := [(0, .ref (F.1 0)), (1, .int (zI (own + (8 + (8 * (I 3 line)))))), (2, .int (zI (line + 1)))]) [2, 1, 0] rfl ?_
      exact k3 c12 c21

set_option maxRecDepth 100000 in
set_option maxHeartbeats 4000000 in
theorem s_X3_saving_48 {G : zCx} {F : zFr} {I : zStore} {post : Option Value → zStore → Prop}{own : Int} {v56 : Int} (hG : zOK G "LineLearner" cX3_saving 3) (hR : zRoom G rm_X3_saving) (hE : zRetD G F cX3_saving 0 0 post) (hL : zLay F) (hr : zRg I) (ho : own ≠ 0 → ∃ k : Nat, k < 400 ∧ own = ((8 * k + 8 : Nat) : Int)) (hr1 : -2147483648 ≤ own ∧ own < 2147483648)
    (kc56 : (own ≠ 0) → ∀ (l : Launch) (D : va_G) (cs : Nat → ClassId), l.stackTraces = false → zMt l yX3_bits cX3_bits 4 (some .int) rm_X3_bits D cs F I [.ref (F.1 0)] (fun r I' => r = some (.int (zI v56)) ∧ I' = I))
    (hv56 : -2147483648 ≤ v56 ∧ v56 < 2147483648)
    (k3 : (own ≠ 0) → post (some (.double (FP.dsub FP.dconst1 (FP.ddiv (FP.i2d (zI v56)) (FP.i2d (zI own)))))) I)
    (k4 : (own = 0) → post (some (.double FP.dconst0)) I) :
    zW G F 0 0 I [(0, .ref (F.1 0)), (1, .int (zI own))] [] 48 := by
  refine z_iload_n 1 hG dX3_saving_48 rfl rfl ?_
  refine z_if_ne (tgt := 54) hG dX3_saving_49 (by decide) (by omega) (fun c49 => ?_) (fun c49 => ?_)
  · skip
    refine z_dconst1 hG dX3_saving_54 ?_
    refine z_aload_n 0 hG dX3_saving_55 rfl rfl ?_
    refine z_callV [] hG hR (kc56 c49) hd_X3_bits kw262 kw240 kw241 rfl (zlt hL (by decide)) (zl0 hL) (by decide) (by decide) (by decide) (by decide) rfl rfl (Nat.le_of_ble_eq_true rfl) dX3_saving_56 (fun r I' hp => ?_)
    rw [hp.1, hp.2]
    show zW G F 0 0 I [(0, .ref (F.1 0)), (1, .int (zI own))] [.int (zI v56), .double FP.dconst1] 59
    refine z_i2d hG dX3_saving_59 ?_
    refine z_iload_n 1 hG dX3_saving_60 rfl rfl ?_
    refine z_i2d hG dX3_saving_61 ?_
    refine z_ddiv hG (zsv_q (ho c49)) dX3_saving_62 ?_
    refine z_dsub hG (zsv_s (ho c49)) dX3_saving_63 ?_
    exact hE _ _ _ _ dX3_saving_64 (k3 c49)
  · skip
    refine z_dconst0 hG dX3_saving_52 ?_
    exact hE _ _ _ _ dX3_saving_53 (k4 c49)

/-- the bits of the merged lines by themselves: the model's way, the class's way -/
def zmow (I : zStore) : Nat → Int
  | 0 => 0
  | l + 1 => if zand (zshr (I 119 0) l) 1 = 1 then zmow I l + (8 + 8 * I 112 l) else zmow I l
def zcow (I : zStore) : Nat → Int
  | 0 => 0
  | l + 1 => if I 22 l = 0 then zcow I l else zcow I l + (8 + 8 * I 3 l)
set_option maxHeartbeats 4000000 in
theorem c_X4_saving {F : zFr} {I : zStore} {N n : Nat} (hL : zLayM F) (hr : zRg I) (hW : zWf F) (hB : zmBt I N n) (hb : -2147483648 ≤ zmbt I N n ∧ zmbt I N n < 2147483648) (ho : I 119 0 ≠ 0 → ∃ k : Nat, k < 400 ∧ zmow I N = ((8 * k + 8 : Nat) : Int)) : ∀ (l : Launch) (D : va_G) (cs : Nat → ClassId), l.stackTraces = false → zMt l yX4_saving cX4_saving 3 (some .double) rm_X4_saving D cs F I [.ref (F.1 110)] (fun r I' => r = some (.double (if I 119 0 = 0 then FP.dconst0 else zsav (zmbt I N n) (zmow I N))) ∧ I' = zup I 110 0 0) := by
  intro l D cs hst
  refine zMt.ofD hst (by decide +kernel) (Nat.le_of_ble_eq_true rfl) fun G hG hR hE => ?_
  refine s_X4_saving_0 hG hR hE hL hr ?_
  have hrJ : zRg (zup I 110 0 0) := zRg_up hr (by decide)
  have hc := c_X4_allBits hL hrJ hW (zmBt_t (v := 0) hB)
  rw [zmbt_t] at hc
  have p1 := hB.1
  have key : ∀ (d i : Nat), i + d = N → zW G F 0 0 (zup I 110 0 0) [(0, .ref (F.1 110)), (1, .int (zI (zmow I i))), (2, .int (zI i))] [] 9 := by
    intro d
    induction d with
    | zero =>
      intro i hi
      have e : i = N := by omega
      subst e
      refine s_X4_saving_9 hG hR hE hL hrJ (by omega) (show 0 ≤ I 110 3 ∧ I 110 3 ≤ 12 by omega) (fun _ => ?_) (fun q => absurd (show (i : Int) < I 110 3 from q) (by omega)) (fun q => absurd (show (i : Int) < I 110 3 from q) (by omega))
      refine s_X4_saving_52 (v67 := zmbt I i n) hG hR hE hL hrJ ho (fun _ => hc) hb (fun q => ⟨by rw [if_neg (show ¬ I 119 0 = 0 from q)]; rfl, rfl⟩) (fun q => ⟨by rw [if_pos (show I 119 0 = 0 from q)], rfl⟩)
    | succ d ih =>
      intro i hi
      have h := ih (i + 1) (by omega)
      simp only [zmow] at h
      refine s_X4_saving_9 hG hR hE hL hrJ (by omega) (show 0 ≤ I 110 3 ∧ I 110 3 ≤ 12 by omega) (fun q => absurd (show I 110 3 ≤ (i : Int) from q) (by omega)) (fun _ q => ?_) (fun _ q => ?_)
      · rw [if_neg (show ¬ zand (zshr (I 119 0) i) 1 = 1 from q)] at h
        exact h
      · rw [if_pos (show zand (zshr (I 119 0) i) 1 = 1 from q)] at h
        exact h
  exact key N 0 (by omega)
theorem zcow_bd {I : zStore} {N : Nat} (hs : ∀ l : Nat, l < N → 0 ≤ I 3 l ∧ I 3 l ≤ 30) : ∀ l : Nat, l ≤ N → 0 ≤ zcow I l ∧ zcow I l ≤ 248 * l
  | 0, _ => by simp [zcow]
  | l + 1, h => by
    have h1 := zcow_bd hs l (by omega)
    have h2 := hs l (by omega)
    simp only [zcow]
    split <;> omega
theorem zcow_8 {I : zStore} : ∀ l : Nat, zcow I l % 8 = 0
  | 0 => by simp [zcow]
  | l + 1 => by
    have h1 := zcow_8 (I := I) l
    simp only [zcow]
    split <;> omega
set_option maxHeartbeats 4000000 in
theorem c_X3_saving {F : zFr} {I : zStore} {n N : Nat} (hL : zLay F) (hr : zRg I) (hn : I 15 0 = n) (hn2 : n ≤ 40) (hN : I 2 0 = N) (hN2 : N ≤ 12) (hj : 0 ≤ I 15 1 ∧ I 15 1 ≤ 12) (hz : zSl I n) (hln : zLn I N) (hT : ∀ l : Int, 0 ≤ l → l < N → I 22 l ≠ 0 → zTks I l) (hs : ∀ l : Nat, l < N → 0 ≤ I 3 l ∧ I 3 l ≤ 30) (hb : -2147483648 ≤ zb1 I n + zb2 I N ∧ zb1 I n + zb2 I N < 2147483648) : ∀ (l : Launch) (D : va_G) (cs : Nat → ClassId), l.stackTraces = false → zMt l yX3_saving cX3_saving 3 (some .double) rm_X3_saving D cs F I [.ref (F.1 0)] (fun r I' => r = some (.double (if zcow I N = 0 then FP.dconst0 else zsav (zb1 I n + zb2 I N) (zcow I N))) ∧ I' = I) := by
  intro l D cs hst
  refine zMt.ofD hst (by decide +kernel) (Nat.le_of_ble_eq_true rfl) fun G hG hR hE => ?_
  refine s_X3_saving_0 hG hR hE hL hr ?_
  have hc := c_X3_bits hL hr hn hn2 hN hN2 hj hz hln hT
  have key : ∀ (d i : Nat), i + d = N → zW G F 0 0 I [(0, .ref (F.1 0)), (1, .int (zI (zcow I i))), (2, .int (zI i))] [] 4 := by
    intro d
    induction d with
    | zero =>
      intro i hi
      have e : i = N := by omega
      subst e
      have hbd := zcow_bd hs i (Nat.le_refl _)
      have h8 := zcow_8 (I := I) i
      refine s_X3_saving_4 hG hR hE hL hr (by omega) (by omega) (fun _ => ?_) (fun q => absurd q (by omega)) (fun q => absurd q (by omega))
      refine s_X3_saving_48 (own := zcow I i) (v56 := zb1 I n + zb2 I i) hG hR hE hL hr (fun q => ⟨(zcow I i / 8 - 1).toNat, by omega, by omega⟩) (by omega) (fun _ => hc) hb (fun q => ⟨by rw [if_neg q]; rfl, rfl⟩) (fun q => ⟨by rw [if_pos q], rfl⟩)
    | succ d ih =>
      intro i hi
      have h := ih (i + 1) (by omega)
      simp only [zcow] at h
      have hi9 := hs i (by omega)
      refine s_X3_saving_4 hG hR hE hL hr (by omega) (by omega) (fun q => absurd q (by omega)) (fun _ q => ?_) (fun _ q => ?_)
      · rw [if_pos q] at h
        exact h
      · rw [if_neg q] at h
        exact h
  exact key N 0 (by omega)
