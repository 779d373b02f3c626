theorem zm_X4_134 : zMath "LineLearnerModel" 134 Lib.Math.min.name Lib.Math.min.code := ⟨kw815, kw226, kw12, kw227⟩
abbrev rm_X4_align : Room := { frames := 5, cells := 0, slots := 0, locals := 117 }
set_option maxRecDepth 100000 in
set_option maxHeartbeats 4000000 in
theorem s_X4_align_0 {G : zCx} {F : zFr} {I : zStore} {post : Option Value → zStore → Prop}{f : Int} {line : Int} (hG : zOK G "LineLearnerModel" cX4_align 8) (hR : zRoom G rm_X4_align) (hE : zRetI G F cX4_align 0 0 post) (hL : zLayM F) (hr : zRg I)
    (k1 : zW G F 0 0 I [(0, .ref (F.1 110)), (1, .int (zI f)), (2, .int (zI line)), (3, .int (zI 0))] [] 2) :
    zW G F 0 0 I [(0, .ref (F.1 110)), (1, .int (zI f)), (2, .int (zI line))] [] 0 := by
  refine z_iconst 0 hG dX4_align_0 ?_
  refine z_istore_n (lv' := [(3, .int (zI 0)), (0, .ref (F.1 110)), (1, .int (zI f)), (2, .int (zI line))]) hG dX4_align_1 rfl (by decide) rfl ?_
  refine z_perm (lv' := [(0, .ref (F.1 110)), (1, .int (zI f)), (2, .int (zI line)), (3, .int (zI 0))]) [1, 2, 3, 0] rfl ?_
  exact k1

set_option maxRecDepth 100000 in
set_option maxHeartbeats 4000000 in
theorem s_X4_align_2 {G : zCx} {F : zFr} {I : zStore} {post : Option Value → zStore → Prop}{f line slot : Int} (hG : zOK G "LineLearnerModel" cX4_align 8) (hR : zRoom G rm_X4_align) (hE : zRetI G F cX4_align 0 0 post) (hL : zLayM F) (hr : zRg I) (hf : 0 ≤ f ∧ f < 13) (hl : 0 ≤ line ∧ line < 12) (hn : 0 ≤ I 118 f ∧ I 118 f ≤ 40) (hm : 0 ≤ I 114 line ∧ I 114 line ≤ 30) (h3 : 0 ≤ slot ∧ slot ≤ 41)
    (k1 : ((I 118 f) < slot) → post (some (.int (zI (I 124 (31 * (I 118 f) + (I 114 line)))))) I)
    (k2 : (slot ≤ (I 118 f)) → zW G F 0 0 I [(0, .ref (F.1 110)), (1, .int (zI f)), (2, .int (zI line)), (3, .int (zI slot)), (4, .int (zI 0))] [] 15) :
    zW G F 0 0 I [(0, .ref (F.1 110)), (1, .int (zI f)), (2, .int (zI line)), (3, .int (zI slot))] [] 2 := by
  refine z_iload_n 3 hG dX4_align_2 rfl rfl ?_
  refine z_aload_n 0 hG dX4_align_3 rfl rfl ?_
  refine z_getR (t := 118) hG zcl4 (zltM hL (by decide)) (zl110 hL) 13 (by decide) rfl kw690 dX4_align_4 ?_
  refine z_iload_n 1 hG dX4_align_7 rfl rfl ?_
  refine z_iald (v := I 118 f) hG (zltM hL (by decide)) (zl118 hL) (by decide) (by omega) rfl dX4_align_8 ?_
  refine z_icmp_gt (tgt := 109) hG dX4_align_9 (by decide) (by omega) (hr _ _) (fun c9 => ?_) (fun c9 => ?_)
  · skip
    refine z_aload_n 0 hG dX4_align_109 rfl rfl ?_
    refine z_getR (t := 124) hG zcl4 (zltM hL (by decide)) (zl110 hL) 21 (by decide) rfl kw698 dX4_align_110 ?_
    refine z_aload_n 0 hG dX4_align_113 rfl rfl ?_
    refine z_getR (t := 118) hG zcl4 (zltM hL (by decide)) (zl110 hL) 13 (by decide) rfl kw690 dX4_align_114 ?_
    refine z_iload_n 1 hG dX4_align_117 rfl rfl ?_
    refine z_iald (v := I 118 f) hG (zltM hL (by decide)) (zl118 hL) (by decide) (by omega) rfl dX4_align_118 ?_
    refine z_aload_n 0 hG dX4_align_119 rfl rfl ?_
    refine z_getR (t := 114) hG zcl4 (zltM hL (by decide)) (zl110 hL) 6 (by decide) rfl kw683 dX4_align_120 ?_
    refine z_iload_n 2 hG dX4_align_123 rfl rfl ?_
    refine z_iald (v := I 114 line) hG (zltM hL (by decide)) (zl114 hL) (by decide) (by omega) rfl dX4_align_124 ?_
    refine z_callS [.int (zI (I 118 f)), .int (zI (I 114 line))] hG hR (c_X4_cell hr) hd_X4_cell kw833 kw834 (by decide) (by decide) (by decide) (by decide) rfl rfl (Nat.le_of_ble_eq_true rfl) dX4_align_125 (fun r I' hp => ?_)
    rw [hp.1, hp.2]
    show zW G F 0 0 I [(0, .ref (F.1 110)), (1, .int (zI f)), (2, .int (zI line)), (3, .int (zI slot))] [.int (zI (31 * (I 118 f) + (I 114 line))), .ref (F.1 124)] 128
    refine z_iald (v := I 124 (31 * (I 118 f) + (I 114 line))) hG (zltM hL (by decide)) (zl124 hL) (by decide) (by omega) rfl dX4_align_128 ?_
    exact hE _ _ _ _ dX4_align_129 (k1 c9)
  · skip
    refine z_iconst 0 hG dX4_align_12 ?_
    refine z_istore (lv' := [(4, .int (zI 0)), (0, .ref (F.1 110)), (1, .int (zI f)), (2, .int (zI line)), (3, .int (zI slot))]) hG dX4_align_13 (by decide) rfl ?_
    refine z_perm (lv' := [(0, .ref (F.1 110)), (1, .int (zI f)), (2, .int (zI line)), (3, .int (zI slot)), (4, .int (zI 0))]) [1, 2, 3, 4, 0] rfl ?_
    exact k2 c9

set_option maxRecDepth 100000 in
set_option maxHeartbeats 4000000 in
theorem s_X4_align_15 {G : zCx} {F : zFr} {I : zStore} {post : Option Value → zStore → Prop}{f line slot token : Int} (hG : zOK G "LineLearnerModel" cX4_align 8) (hR : zRoom G rm_X4_align) (hE : zRetI G F cX4_align 0 0 post) (hL : zLayM F) (hr : zRg I) (hf : 0 ≤ f ∧ f < 13) (hl : 0 ≤ line ∧ line < 12) (hn : 0 ≤ I 118 f ∧ I 118 f ≤ 40) (hm : 0 ≤ I 114 line ∧ I 114 line ≤ 30) (h3 : 0 ≤ slot ∧ slot ≤ 40) (h4 : 0 ≤ token ∧ token ≤ 31)
    (k1 : ((I 114 line) < token) → zW G F 0 0 I [(0, .ref (F.1 110)), (1, .int (zI f)), (2, .int (zI line)), (3, .int (zI (slot + 1)))] [] 2)
    (k2 : (token ≤ (I 114 line)) → ((slot + token) ≠ 0) → zW G F 0 0 I [(0, .ref (F.1 110)), (1, .int (zI f)), (2, .int (zI line)), (3, .int (zI slot)), (4, .int (zI token)), (5, .int (zI 2147483647)), (6, .int (zI 0))] [] 44)
    (k3 : (token ≤ (I 114 line)) → ((slot + token) = 0) → zW G F 0 0 I [(0, .ref (F.1 110)), (1, .int (zI f)), (2, .int (zI line)), (3, .int (zI slot)), (4, .int (zI token)), (5, .int (zI 0)), (6, .int (zI 0))] [] 44) :
    zW G F 0 0 I [(0, .ref (F.1 110)), (1, .int (zI f)), (2, .int (zI line)), (3, .int (zI slot)), (4, .int (zI token))] [] 15 := by
  refine z_iload 4 hG dX4_align_15 rfl ?_
  refine z_aload_n 0 hG dX4_align_17 rfl rfl ?_
  refine z_getR (t := 114) hG zcl4 (zltM hL (by decide)) (zl110 hL) 6 (by decide) rfl kw683 dX4_align_18 ?_
  refine z_iload_n 2 hG dX4_align_21 rfl rfl ?_
  refine z_iald (v := I 114 line) hG (zltM hL (by decide)) (zl114 hL) (by decide) (by omega) rfl dX4_align_22 ?_
  refine z_icmp_gt (tgt := 103) hG dX4_align_23 (by decide) (by omega) (hr _ _) (fun c23 => ?_) (fun c23 => ?_)
  · skip
    refine z_iinc (lv' := [(3, .int (zI (slot + 1))), (0, .ref (F.1 110)), (1, .int (zI f)), (2, .int (zI line)), (4, .int (zI token))]) 3 hG dX4_align_103 rfl (by decide) rfl ?_
    refine z_goto (tgt := 2) hG dX4_align_106 (by decide) ?_
    refine z_perm (lv' := [(0, .ref (F.1 110)), (1, .int (zI f)), (2, .int (zI line)), (3, .int (zI (slot + 1)))]) [1, 2, 3, 0] rfl ?_
    exact k1 c23
  · skip
    refine z_iload_n 3 hG dX4_align_26 rfl rfl ?_
    refine z_iload 4 hG dX4_align_27 rfl ?_
    refine z_iadd hG dX4_align_29 ?_
    refine z_if_ne (tgt := 37) hG dX4_align_30 (by decide) (by omega) (fun c30 => ?_) (fun c30 => ?_)
    · skip
      refine z_ldc 2147483647 hG kw825 (by decide) dX4_align_37 ?_
      refine z_istore (lv' := [(5, .int (zI 2147483647)), (0, .ref (F.1 110)), (1, .int (zI f)), (2, .int (zI line)), (3, .int (zI slot)), (4, .int (zI token))]) hG dX4_align_39 (by decide) rfl ?_
      refine z_iconst 0 hG dX4_align_41 ?_
      refine z_istore (lv' := [(6, .int (zI 0)), (5, .int (zI 2147483647)), (0, .ref (F.1 110)), (1, .int (zI f)), (2, .int (zI line)), (3, .int (zI slot)), (4, .int (zI token))]) hG dX4_align_42 (by decide) rfl ?_
      refine z_perm (lv' := [(0, .ref (F.1 110)), (1, .int (zI f)), (2, .int (zI line)), (3, .int (zI slot)), (4, .int (zI token)), (5, .int (zI 2147483647)), (6, .int (zI 0))]) [2, 3, 4, 5, 6, 1, 0] rfl ?_
      exact k2 c23 c30
    · skip
      refine z_iconst 0 hG dX4_align_33 ?_
      refine z_goto (tgt := 39) hG dX4_align_34 (by decide) ?_
      refine z_istore (lv' := [(5, .int (zI 0)), (0, .ref (F.1 110)), (1, .int (zI f)), (2, .int (zI line)), (3, .int (zI slot)), (4, .int (zI token))]) hG dX4_align_39 (by decide) rfl ?_
      refine z_iconst 0 hG dX4_align_41 ?_
      refine z_istore (lv' := [(6, .int (zI 0)), (5, .int (zI 0)), (0, .ref (F.1 110)), (1, .int (zI f)), (2, .int (zI line)), (3, .int (zI slot)), (4, .int (zI token))]) hG dX4_align_42 (by decide) rfl ?_
      refine z_perm (lv' := [(0, .ref (F.1 110)), (1, .int (zI f)), (2, .int (zI line)), (3, .int (zI slot)), (4, .int (zI token)), (5, .int (zI 0)), (6, .int (zI 0))]) [2, 3, 4, 5, 6, 1, 0] rfl ?_
      exact k3 c23 c30

set_option maxRecDepth 100000 in
set_option maxHeartbeats 4000000 in
theorem s_X4_align_44 {G : zCx} {F : zFr} {I : zStore} {post : Option Value → zStore → Prop}{f line slot token least step : Int} {v58 : Int} (hG : zOK G "LineLearnerModel" cX4_align 8) (hR : zRoom G rm_X4_align) (hE : zRetI G F cX4_align 0 0 post) (hL : zLayM F) (hr : zRg I) (hf : 0 ≤ f ∧ f < 13) (hl : 0 ≤ line ∧ line < 12) (h3 : 0 ≤ slot ∧ slot ≤ 40) (h4 : 0 ≤ token ∧ token ≤ 30) (h5 : 0 ≤ least ∧ least < 2147483648) (h6 : 0 ≤ step ∧ step ≤ 3)
    (k1 : (2 < step) → zW G F 0 0 (zup I 124 (31 * slot + token) least) [(0, .ref (F.1 110)), (1, .int (zI f)), (2, .int (zI line)), (3, .int (zI slot)), (4, .int (zI (token + 1)))] [] 15)
    (kc58 : (step ≤ 2) → ∀ (l : Launch) (D : va_G) (cs : Nat → ClassId), l.stackTraces = false → zMt l yX4_costOf cX4_costOf 8 (some .int) rm_X4_costOf D cs F I [.ref (F.1 110), .int (zI step), .int (zI f), .int (zI line), .int (zI slot), .int (zI token)] (fun r I' => r = some (.int (zI v58)) ∧ I' = I))
    (hv58 : -2147483648 ≤ v58 ∧ v58 < 2147483648)
    (k4 : (step ≤ 2) → (v58 = (-1)) → zW G F 0 0 I [(0, .ref (F.1 110)), (1, .int (zI f)), (2, .int (zI line)), (3, .int (zI slot)), (4, .int (zI token)), (5, .int (zI least)), (6, .int (zI (step + 1)))] [] 44)
    (k5 : (step ≤ 2) → (v58 ≠ (-1)) → zW G F 0 0 I [(0, .ref (F.1 110)), (1, .int (zI f)), (2, .int (zI line)), (3, .int (zI slot)), (4, .int (zI token)), (5, .int (zI (min least v58))), (6, .int (zI (step + 1)))] [] 44) :
    zW G F 0 0 I [(0, .ref (F.1 110)), (1, .int (zI f)), (2, .int (zI line)), (3, .int (zI slot)), (4, .int (zI token)), (5, .int (zI least)), (6, .int (zI step))] [] 44 := by
  refine z_iload 6 hG dX4_align_44 rfl ?_
  refine z_iconst 2 hG dX4_align_46 ?_
  refine z_icmp_gt (tgt := 84) hG dX4_align_47 (by decide) (by omega) (by decide) (fun c47 => ?_) (fun c47 => ?_)
  · skip
    refine z_aload_n 0 hG dX4_align_84 rfl rfl ?_
    refine z_getR (t := 124) hG zcl4 (zltM hL (by decide)) (zl110 hL) 21 (by decide) rfl kw698 dX4_align_85 ?_
    refine z_iload_n 3 hG dX4_align_88 rfl rfl ?_
    refine z_iload 4 hG dX4_align_89 rfl ?_
    refine z_callS [.int (zI slot), .int (zI token)] hG hR (c_X4_cell hr) hd_X4_cell kw833 kw834 (by decide) (by decide) (by decide) (by decide) rfl rfl (Nat.le_of_ble_eq_true rfl) dX4_align_91 (fun r I' hp => ?_)
    rw [hp.1, hp.2]
    show zW G F 0 0 I [(0, .ref (F.1 110)), (1, .int (zI f)), (2, .int (zI line)), (3, .int (zI slot)), (4, .int (zI token)), (5, .int (zI least)), (6, .int (zI step))] [.int (zI (31 * slot + token)), .ref (F.1 124)] 94
    refine z_iload 5 hG dX4_align_94 rfl ?_
    refine z_iast hG (zltM hL (by decide)) (zl124 hL) (by decide) (by omega) dX4_align_96 ?_
    refine z_iinc (lv' := [(4, .int (zI (token + 1))), (0, .ref (F.1 110)), (1, .int (zI f)), (2, .int (zI line)), (3, .int (zI slot)), (5, .int (zI least)), (6, .int (zI step))]) 4 hG dX4_align_97 rfl (by decide) rfl ?_
    refine z_goto (tgt := 15) hG dX4_align_100 (by decide) ?_
    refine z_perm (lv' := [(0, .ref (F.1 110)), (1, .int (zI f)), (2, .int (zI line)), (3, .int (zI slot)), (4, .int (zI (token + 1)))]) [1, 2, 3, 4, 0] rfl ?_
    exact k1 c47
  · skip
    refine z_aload_n 0 hG dX4_align_50 rfl rfl ?_
    refine z_iload 6 hG dX4_align_51 rfl ?_
    refine z_iload_n 1 hG dX4_align_53 rfl rfl ?_
    refine z_iload_n 2 hG dX4_align_54 rfl rfl ?_
    refine z_iload_n 3 hG dX4_align_55 rfl rfl ?_
    refine z_iload 4 hG dX4_align_56 rfl ?_
    refine z_callV [.int (zI step), .int (zI f), .int (zI line), .int (zI slot), .int (zI token)] hG hR (kc58 c47) hd_X4_costOf kw826 kw828 kp28 rfl (zltM hL (by decide)) (zl110 hL) (by decide) (by decide) (by decide) (by decide) rfl rfl (Nat.le_of_ble_eq_true rfl) dX4_align_58 (fun r I' hp => ?_)
    rw [hp.1, hp.2]
    show zW G F 0 0 I [(0, .ref (F.1 110)), (1, .int (zI f)), (2, .int (zI line)), (3, .int (zI slot)), (4, .int (zI token)), (5, .int (zI least)), (6, .int (zI step))] [.int (zI v58)] 61
    refine z_istore (lv' := [(7, .int (zI v58)), (0, .ref (F.1 110)), (1, .int (zI f)), (2, .int (zI line)), (3, .int (zI slot)), (4, .int (zI token)), (5, .int (zI least)), (6, .int (zI step))]) hG dX4_align_61 (by decide) rfl ?_
    refine z_iload 0 hG dX4_align_63 rfl ?_
    refine z_iconst (-1) hG dX4_align_65 ?_
    refine z_icmp_eq (tgt := 78) hG dX4_align_66 (by decide) (by omega) (by decide) (fun c66 => ?_) (fun c66 => ?_)
    · skip
      refine z_iinc (lv' := [(6, .int (zI (step + 1))), (7, .int (zI v58)), (0, .ref (F.1 110)), (1, .int (zI f)), (2, .int (zI line)), (3, .int (zI slot)), (4, .int (zI token)), (5, .int (zI least))]) 7 hG dX4_align_78 rfl (by decide) rfl ?_
      refine z_goto (tgt := 44) hG dX4_align_81 (by decide) ?_
      refine z_perm (lv' := [(0, .ref (F.1 110)), (1, .int (zI f)), (2, .int (zI line)), (3, .int (zI slot)), (4, .int (zI token)), (5, .int (zI least)), (6, .int (zI (step + 1)))]) [2, 3, 4, 5, 6, 7, 0] rfl ?_
      exact k4 c47 c66
    · skip
      refine z_iload 6 hG dX4_align_69 rfl ?_
      refine z_iload 0 hG dX4_align_71 rfl ?_
      refine z_min hG hR zm_X4_134 (by decide) (Nat.le_of_ble_eq_true rfl) (by omega) (by omega) dX4_align_73 ?_
      refine z_istore (lv' := [(5, .int (zI (min least v58))), (7, .int (zI v58)), (0, .ref (F.1 110)), (1, .int (zI f)), (2, .int (zI line)), (3, .int (zI slot)), (4, .int (zI token)), (6, .int (zI step))]) hG dX4_align_76 (by decide) rfl ?_
      refine z_iinc (lv' := [(6, .int (zI (step + 1))), (5, .int (zI (min least v58))), (7, .int (zI v58)), (0, .ref (F.1 110)), (1, .int (zI f)), (2, .int (zI line)), (3, .int (zI slot)), (4, .int (zI token))]) 7 hG dX4_align_78 rfl (by decide) rfl ?_
      refine z_goto (tgt := 44) hG dX4_align_81 (by decide) ?_
      refine z_perm (lv' := [(0, .ref (F.1 110)), (1, .int (zI f)), (2, .int (zI line)), (3, .int (zI slot)), (4, .int (zI token)), (5, .int (zI (min least v58))), (6, .int (zI (step + 1)))]) [3, 4, 5, 6, 7, 1, 0] rfl ?_
      exact k5 c47 c66

/-- what a skip of the slot i of the model's format f costs; what a pair with the token t of the line does -/
def zms (I : zStore) (f : Int) (i : Nat) : Int := if zmu (I 122) f i (I 110 3).toNat < zbc (I 119 f) then 1 else I 110 11
def zmq (I : zStore) (f line : Int) (i t : Nat) : Int := if I 120 (40 * f + i) ≠ I 115 (30 * line + t) then (-1) else if I 121 (40 * f + i) = (-1) then 1 else if zmS (I 117) (I 116) (I 113) (I 121 (40 * f + i)) (30 * line + t) = true then 0 else I 110 10
def zmC (I : zStore) (f line : Int) : Nat → Nat → Int := zC (zms I f) (I 110 12) (zmq I f line)
def zmA (I : zStore) (f line : Int) (n m : Nat) : Prop := (0 ≤ f ∧ f < 13) ∧ (0 ≤ line ∧ line < 12) ∧ (I 118 f = n ∧ n ≤ 40) ∧ (I 114 line = m ∧ m ≤ 30) ∧ (0 ≤ I 110 3 ∧ I 110 3 ≤ 12) ∧ (0 ≤ I 119 f ∧ I 119 f < 4096) ∧ (0 ≤ I 110 10 ∧ I 110 10 ≤ 20) ∧ (0 ≤ I 110 11 ∧ I 110 11 ≤ 20) ∧ (0 ≤ I 110 12 ∧ I 110 12 ≤ 20) ∧ (∀ i : Nat, i < n → I 121 (40 * f + i) ≠ (-1) → zmT I (I 121 (40 * f + i))) ∧ ∀ t : Nat, t < m → zmT I (30 * line + t)
/-- stores that differ in the model's scratch only: table 124, way 125, its length, the new rows -/
def zSm (I J : zStore) : Prop := ∀ c j, c ≠ 124 → c ≠ 125 → c ≠ 126 → c ≠ 127 → c ≠ 128 → (c ≠ 110 ∨ j ≠ 22) → J c j = I c j
theorem zSm.rfl {I : zStore} : zSm I I := fun _ _ _ _ _ _ _ _ => Eq.refl _
theorem zSm.trans {I J K : zStore} (h : zSm I J) (h2 : zSm J K) : zSm I K := fun c j a b d e f g => by rw [h2 c j a b d e f g, h c j a b d e f g]
theorem zSm.o {I J : zStore} (h : zSm I J) {c : Nat} (hc : c < 124) (h3 : c ≠ 110) : J c = I c := funext fun j => h c j (by omega) (by omega) (by omega) (by omega) (by omega) (Or.inl h3)
theorem zSm.f {I J : zStore} (h : zSm I J) {j : Int} (h3 : j ≠ 22) : J 110 j = I 110 j := h 110 j (by decide) (by decide) (by decide) (by decide) (by decide) (Or.inr h3)
theorem zSm.up {I J : zStore} {k : Nat} {i v : Int} (h : zSm I J) (hk : k = 124 ∨ k = 125 ∨ k = 126 ∨ k = 127 ∨ k = 128) : zSm I (zup J k i v) := fun c j a b d e f g => by rw [zup_k (by omega)]; exact h c j a b d e f g
theorem zSm.fl {I J : zStore} {k n : Nat} {a : Int} {w : Nat → Int} (h : zSm I J) (hk : k = 124 ∨ k = 125 ∨ k = 126 ∨ k = 127 ∨ k = 128) : zSm I (zfl J k a n w) := fun c j a b d e f g => by rw [zfl_k (by omega)]; exact h c j a b d e f g
theorem zSm.tab {I J : zStore} {m n : Nat} {C : Nat → Nat → Int} (h : zSm I J) : zSm I (ztab J 124 m n C) := fun c j a b d e f g => by rw [ztab_k a]; exact h c j a b d e f g
theorem zSm.st {I J : zStore} {v : Int} (h : zSm I J) : zSm I (zup J 110 22 v) := fun c j a b d e f g => by
  rcases g with g | g
  · rw [zup_k g]; exact h c j a b d e f (Or.inl g)
  · rw [zup_i g]; exact h c j a b d e f (Or.inr g)
section ZSM
variable {I J : zStore} {f line : Int} {n m : Nat}
theorem zmT_s (h : zSm I J) {p : Int} (hp : zmT I p) : zmT J p := by
  unfold zmT at *
  rw [h.o (c := 116) (by decide) (by decide), h.o (c := 117) (by decide) (by decide)]
  exact hp
theorem zmA_s (h : zSm I J) (hA : zmA I f line n m) : zmA J f line n m := by
  obtain ⟨h1, h2, h3, h4, h5, h6, h7, h8, h9, h10, h11⟩ := hA
  refine ⟨h1, h2, ?_, ?_, ?_, ?_, ?_, ?_, ?_, fun i hi hx => ?_, fun t ht => zmT_s h (h11 t ht)⟩
  · rw [h.o (c := 118) (by decide) (by decide)]; exact h3
  · rw [h.o (c := 114) (by decide) (by decide)]; exact h4
  · rw [h.f (j := 3) (by decide)]; exact h5
  · rw [h.o (c := 119) (by decide) (by decide)]; exact h6
  · rw [h.f (j := 10) (by decide)]; exact h7
  · rw [h.f (j := 11) (by decide)]; exact h8
  · rw [h.f (j := 12) (by decide)]; exact h9
  · rw [h.o (c := 121) (by decide) (by decide)] at hx ⊢
    exact zmT_s h (h10 i hi hx)
theorem zms_s (h : zSm I J) : zms J f = zms I f := by
  funext i
  unfold zms
  rw [h.o (c := 122) (by decide) (by decide), h.f (j := 3) (by decide), h.o (c := 119) (by decide) (by decide), h.f (j := 11) (by decide)]
theorem zmq_s (h : zSm I J) : zmq J f line = zmq I f line := by
  funext i t
  unfold zmq
  rw [h.o (c := 120) (by decide) (by decide), h.o (c := 115) (by decide) (by decide), h.o (c := 121) (by decide) (by decide), h.o (c := 117) (by decide) (by decide), h.o (c := 116) (by decide) (by decide), h.o (c := 113) (by decide) (by decide), h.f (j := 10) (by decide)]
theorem zmC_s (h : zSm I J) : zmC J f line = zmC I f line := by
  unfold zmC
  rw [zms_s h, zmq_s h, h.f (j := 12) (by decide)]
end ZSM
section ZMC
variable {I J : zStore} {f line : Int} {n m : Nat}
theorem zms_bd (hA : zmA I f line n m) (i : Nat) : 0 ≤ zms I f i ∧ zms I f i ≤ 20 := by
  obtain ⟨h1, h2, h3, h4, h5, h6, h7, h8, h9, h10, h11⟩ := hA
  unfold zms
  split <;> omega
theorem zmq_bd (hA : zmA I f line n m) (i t : Nat) : -1 ≤ zmq I f line i t ∧ zmq I f line i t ≤ 20 := by
  obtain ⟨h1, h2, h3, h4, h5, h6, h7, h8, h9, h10, h11⟩ := hA
  unfold zmq
  repeat' split
  all_goals omega
theorem zmC_bd (hA : zmA I f line n m) (i t : Nat) : 0 ≤ zmC I f line i t ∧ zmC I f line i t ≤ 20 * i + 20 * t := zC_bd (zms_bd hA) hA.2.2.2.2.2.2.2.2.1 (fun i t => (zmq_bd hA i t).1) i t
theorem zC_f0 {s : Nat → Int} {f : Int} {q : Nat → Nat → Int} {t : Nat} : zC s f q 0 (t + 1) = zC s f q 0 t + f := by
  simp only [zC]
  have : ((t + 1 : Nat) : Int) * f = t * f + f := by rw [Int.natCast_add, Int.add_mul]; simp
  exact this
/-- the three steps' costs, read off the table -/
theorem zco_0 (h : zSm I J) {i t : Nat} (h10 : 0 ≤ I 110 10) (hT : 0 < i → 0 < t → J 124 (31 * ((i : Int) - 1) + (t - 1)) = zmC I f line (i - 1) (t - 1)) : zco J 0 f line i t = if i = 0 ∨ t = 0 then (-1) else if zmq I f line (i - 1) (t - 1) = (-1) then (-1) else zmC I f line (i - 1) (t - 1) + zmq I f line (i - 1) (t - 1) := by
  unfold zco
  rw [if_pos rfl]
  by_cases h0 : i = 0 ∨ t = 0
  · rw [if_pos h0, if_pos (by omega)]
  · rw [if_neg h0, if_neg (by omega), hT (by omega) (by omega)]
    have e1 : ((i : Int) - 1) = ((i - 1 : Nat) : Int) := by omega
    have e2 : (30 * line + (t : Int) - 1) = 30 * line + ((t - 1 : Nat) : Int) := by omega
    rw [e1, e2]
    generalize zmC I f line (i - 1) (t - 1) = C9
    unfold zmq
    rw [h.o (c := 120) (by decide) (by decide), h.o (c := 115) (by decide) (by decide), h.o (c := 121) (by decide) (by decide), h.o (c := 117) (by decide) (by decide), h.o (c := 116) (by decide) (by decide), h.o (c := 113) (by decide) (by decide), h.f (j := 10) (by decide)]
    by_cases hk : I 120 (40 * f + ((i - 1 : Nat) : Int)) ≠ I 115 (30 * line + ((t - 1 : Nat) : Int))
    · rw [if_pos hk, if_pos hk, if_pos rfl]
    · rw [if_neg hk, if_neg hk]
      split
      · rfl
      · split
        · rfl
        · rw [if_neg (by omega)]
theorem zco_1 (h : zSm I J) {i t : Nat} (hT : 0 < i → J 124 (31 * ((i : Int) - 1) + t) = zmC I f line (i - 1) t) : zco J 1 f line i t = if i = 0 then (-1) else zmC I f line (i - 1) t + zms I f (i - 1) := by
  unfold zco
  rw [if_neg (by decide), if_pos rfl]
  by_cases h0 : i = 0
  · rw [if_pos h0, if_pos (by omega)]
  · rw [if_neg h0, if_neg (by omega), hT (by omega)]
    have e1 : ((i : Int) - 1) = ((i - 1 : Nat) : Int) := by omega
    unfold zms
    rw [e1, h.o (c := 122) (by decide) (by decide), h.f (j := 3) (by decide), h.o (c := 119) (by decide) (by decide), h.f (j := 11) (by decide)]
theorem zco_2 (h : zSm I J) {i t : Nat} (hT : 0 < t → J 124 (31 * (i : Int) + (t - 1)) = zmC I f line i (t - 1)) : zco J 2 f line i t = if t = 0 then (-1) else zmC I f line i (t - 1) + I 110 12 := by
  unfold zco
  rw [if_neg (by decide), if_neg (by decide)]
  by_cases h0 : t = 0
  · rw [if_pos h0, if_pos (by omega)]
  · rw [if_neg h0, if_neg (by omega), hT (by omega), h.f (j := 12) (by decide)]
/-- the least of what there is -/
def zle (a c : Int) : Int := if c = (-1) then a else min a c
theorem zle3 (hA : zmA I f line n m) {i t : Nat} (hi : i ≤ 40) (ht : t ≤ 30) {c0 c1 c2 : Int} (h0 : c0 = if i = 0 ∨ t = 0 then (-1) else if zmq I f line (i - 1) (t - 1) = (-1) then (-1) else zmC I f line (i - 1) (t - 1) + zmq I f line (i - 1) (t - 1)) (h1 : c1 = if i = 0 then (-1) else zmC I f line (i - 1) t + zms I f (i - 1)) (h2 : c2 = if t = 0 then (-1) else zmC I f line i (t - 1) + I 110 12) : zle (zle (zle (if i + t = 0 then 0 else 2147483647) c0) c1) c2 = zmC I f line i t := by
  have hb := zmC_bd hA
  have hs := zms_bd hA
  have hq := zmq_bd hA
  have hf := hA.2.2.2.2.2.2.2.2.1
  rcases i with _ | i
  · rw [if_pos (Or.inl rfl)] at h0
    rw [if_pos rfl] at h1
    rcases t with _ | t
    · rw [if_pos rfl] at h2
      subst h0; subst h1; subst h2
      simp [zle, zmC, zC]
    · rw [if_neg (by omega)] at h2
      subst h0; subst h1
      rw [if_neg (by omega)]
      have e : zmC I f line 0 (t + 1) = zmC I f line 0 t + I 110 12 := zC_f0
      have h3 : c2 = zmC I f line 0 t + I 110 12 := h2
      have h4 := hb 0 t
      rw [e, ← h3]
      unfold zle
      rw [if_pos rfl, if_pos rfl, if_neg (by omega)]
      omega
  · rw [if_neg (by omega)] at h1
    have h1 : c1 = zmC I f line i t + zms I f i := h1
    rw [if_neg (show ¬ (i + 1 + t = 0) by omega)]
    rcases t with _ | t
    · rw [if_pos (Or.inr rfl)] at h0
      rw [if_pos rfl] at h2
      subst h0; subst h2
      have e : zmC I f line (i + 1) 0 = zmC I f line i 0 + zms I f i := rfl
      have h4 := hb i 0
      have h5 := hs i
      rw [e, ← h1]
      unfold zle
      rw [if_pos rfl, if_neg (by omega), if_pos rfl]
      omega
    · rw [if_neg (by omega)] at h0 h2
      have h0 : c0 = if zmq I f line i t = (-1) then (-1) else zmC I f line i t + zmq I f line i t := h0
      have h2 : c2 = zmC I f line (i + 1) t + I 110 12 := h2
      have e : zmC I f line (i + 1) (t + 1) = if zmq I f line i t = (-1) then min (zmC I f line i (t + 1) + zms I f i) (zmC I f line (i + 1) t + I 110 12) else min (min (zmC I f line i (t + 1) + zms I f i) (zmC I f line (i + 1) t + I 110 12)) (zmC I f line i t + zmq I f line i t) := rfl
      have h4 := hb i t
      have h5 := hb i (t + 1)
      have h6 := hb (i + 1) t
      have h7 := hs i
      have h8 := hq i t
      rw [e]
      unfold zle
      rw [if_neg (show ¬ c1 = (-1) by omega), if_neg (show ¬ c2 = (-1) by omega)]
      by_cases hk : zmq I f line i t = (-1)
      · rw [if_pos hk] at h0 ⊢
        rw [if_pos h0]
        omega
      · rw [if_neg hk] at h0 ⊢
        rw [if_neg (by omega)]
        omega
/-- the table while it is made -/
def zmtab (I : zStore) (m : Nat) (C : Nat → Nat → Int) : Nat → zStore
  | 0 => I
  | i + 1 => ztab I 124 m i C
theorem zmtab_s {m : Nat} (hm : m ≤ 30) {C : Nat → Nat → Int} : ∀ i : Nat, zfl (zmtab I m C i) 124 (31 * i) (m + 1) (C i) = zmtab I m C (i + 1)
  | 0 => by
    show zfl I 124 (31 * ((0 : Nat) : Int)) (m + 1) (C 0) = ztab I 124 m 0 C
    rw [← ztab_0 hm]
    rfl
  | i + 1 => ztab_s hm (by omega)
theorem zmtab_sm {m : Nat} {C : Nat → Nat → Int} : ∀ i : Nat, zSm I (zmtab I m C i)
  | 0 => zSm.rfl
  | i + 1 => zSm.rfl.tab
theorem zmtab_rg {m : Nat} {C : Nat → Nat → Int} (hr : zRg I) (hC : ∀ r t, r ≤ 40 → t ≤ 30 → -2147483648 ≤ C r t ∧ C r t < 2147483648) (hm : m ≤ 30) : ∀ i : Nat, i ≤ 41 → zRg (zmtab I m C i)
  | 0, _ => hr
  | i + 1, h => zRg_tab hr fun r t h1 h2 => hC r t (by omega) (by omega)
theorem zmtab_in {m : Nat} (hm : m ≤ 30) {C : Nat → Nat → Int} {i t r x : Nat} (ht : t ≤ 31) (hr : r < i ∧ x ≤ m ∨ r = i ∧ x < t) : zfl (zmtab I m C i) 124 (31 * i) t (C i) 124 (31 * r + x) = C r x := by
  rcases hr with hr | hr
  · rw [zfl_out (Or.inl (by omega))]
    rcases i with _ | i
    · omega
    · exact ztab_in (by omega) hr.2 hm rfl
  · rw [hr.1]
    exact zfl_in hr.2 rfl
end ZMC
set_option maxHeartbeats 8000000 in
theorem c_X4_align {F : zFr} {I : zStore} {f line : Int} {n m : Nat} (hL : zLayM F) (hr : zRg I) (hA : zmA I f line n m) : ∀ (l : Launch) (D : va_G) (cs : Nat → ClassId), l.stackTraces = false → zMt l yX4_align cX4_align 8 (some .int) rm_X4_align D cs F I [.ref (F.1 110), .int (zI f), .int (zI line)] (fun r I' => r = some (.int (zI (zmC I f line n m))) ∧ I' = ztab I 124 m n (zmC I f line)) := by
  intro l D cs hst
  refine zMt.ofI hst (by decide +kernel) (Nat.le_of_ble_eq_true rfl) fun G hG hR hE => ?_
  refine s_X4_align_0 hG hR hE hL hr ?_
  have hb := zmC_bd hA
  have hbC : ∀ r t : Nat, r ≤ 40 → t ≤ 30 → -2147483648 ≤ zmC I f line r t ∧ zmC I f line r t < 2147483648 := fun r t h1 h2 => by have := hb r t; omega
  obtain ⟨h1, h2, h3, h4, h5, h6, h7, h8, h9, h10, h11⟩ := id hA
  generalize hC : zmC I f line = C at *
  have outer : ∀ (d i : Nat), i + d = n + 1 → zW G F 0 0 (zmtab I m C i) [(0, .ref (F.1 110)), (1, .int (zI f)), (2, .int (zI line)), (3, .int (zI i))] [] 2 := by
    intro d
    induction d with
    | zero =>
      intro i hi
      have e : i = n + 1 := by omega
      subst e
      have hs := zmtab_sm (I := I) (m := m) (C := C) (n + 1)
      have e1 : zmtab I m C (n + 1) 118 f = n := by rw [hs.o (c := 118) (by decide) (by decide)]; exact h3.1
      have e2 : zmtab I m C (n + 1) 114 line = m := by rw [hs.o (c := 114) (by decide) (by decide)]; exact h4.1
      refine s_X4_align_2 hG hR hE hL (zmtab_rg hr hbC h4.2 _ (by omega)) h1 h2 (by omega) (by omega) (by omega) (fun _ => ⟨?_, rfl⟩) (fun q => absurd q (by omega))
      rw [e1, e2]
      show some (Value.int (zI (ztab I 124 m n C 124 (31 * (n : Int) + m)))) = _
      rw [ztab_in (Nat.le_refl n) (Nat.le_refl m) h4.2 rfl]
    | succ d ih =>
      intro i hi
      have hs := zmtab_sm (I := I) (m := m) (C := C) i
      have hrg := zmtab_rg (m := m) hr hbC h4.2 i (by omega)
      have e1 : zmtab I m C i 118 f = n := by rw [hs.o (c := 118) (by decide) (by decide)]; exact h3.1
      have e2 : zmtab I m C i 114 line = m := by rw [hs.o (c := 114) (by decide) (by decide)]; exact h4.1
      refine s_X4_align_2 hG hR hE hL hrg h1 h2 (by omega) (by omega) (by omega) (fun q => absurd q (by omega)) (fun _ => ?_)
      have inner : ∀ (e t : Nat), t + e = m + 1 → zW G F 0 0 (zfl (zmtab I m C i) 124 (31 * i) t (C i)) [(0, .ref (F.1 110)), (1, .int (zI f)), (2, .int (zI line)), (3, .int (zI i)), (4, .int (zI t))] [] 15 := by
        intro e
        induction e with
        | zero =>
          intro t ht
          have e9 : t = m + 1 := by omega
          subst e9
          rw [zmtab_s h4.2]
          have hs' := zmtab_sm (I := I) (m := m) (C := C) (i + 1)
          have e1' : zmtab I m C (i + 1) 118 f = n := by rw [hs'.o (c := 118) (by decide) (by decide)]; exact h3.1
          have e2' : zmtab I m C (i + 1) 114 line = m := by rw [hs'.o (c := 114) (by decide) (by decide)]; exact h4.1
          exact s_X4_align_15 hG hR hE hL (zmtab_rg hr hbC h4.2 _ (by omega)) h1 h2 (by omega) (by omega) (by omega) (by omega) (fun _ => ih (i + 1) (by omega)) (fun q => absurd q (by omega)) (fun q => absurd q (by omega))
        | succ e ih2 =>
          intro t ht
          have hn := ih2 (t + 1) (by omega)
          have hsJ : zSm I (zfl (zmtab I m C i) 124 (31 * i) t (C i)) := hs.fl (Or.inl rfl)
          have hrJ : zRg (zfl (zmtab I m C i) 124 (31 * i) t (C i)) := zRg_fl hrg fun x hx => hbC i x (by omega) (by omega)
          have hin : ∀ r x : Nat, (r < i ∧ x ≤ m ∨ r = i ∧ x < t) → zfl (zmtab I m C i) 124 (31 * i) t (C i) 124 (31 * r + x) = C r x := fun r x => zmtab_in (I := I) (C := C) (i := i) (t := t) h4.2 (by omega)
          have hup : zup (zfl (zmtab I m C i) 124 (31 * i) t (C i)) 124 (31 * (i : Int) + t) (C i t) = zfl (zmtab I m C i) 124 (31 * i) (t + 1) (C i) := zfl_up rfl rfl
          rw [← hup] at hn
          generalize zfl (zmtab I m C i) 124 (31 * i) t (C i) = J at *
          have e1' : J 118 f = n := by rw [hsJ.o (c := 118) (by decide) (by decide)]; exact h3.1
          have e2' : J 114 line = m := by rw [hsJ.o (c := 114) (by decide) (by decide)]; exact h4.1
          have hJA := zmA_s hsJ hA
          obtain ⟨g1, g2, g3, g4, g5, g6, g7, g8, g9, g10, g11⟩ := hJA
          have c0 := zco_0 (J := J) (line := line) (f := f) (i := i) (t := t) hsJ h7.1 (fun q1 q2 => by
            have := hin (i - 1) (t - 1) (Or.inl (by omega))
            rw [hC, ← this]; congr 1; omega)
          have c1 := zco_1 (J := J) (line := line) (f := f) (i := i) (t := t) hsJ (fun q1 => by
            have := hin (i - 1) t (Or.inl (by omega))
            rw [hC, ← this]; congr 1; omega)
          have c2 := zco_2 (J := J) (line := line) (f := f) (i := i) (t := t) hsJ (fun q1 => by
            have := hin i (t - 1) (Or.inr (by omega))
            rw [hC, ← this]; congr 1; omega)
          have hle := zle3 hA (i := i) (t := t) (by omega) (by omega) c0 c1 c2
          have cb : ∀ k : Int, (k = 0 ∨ k = 1 ∨ k = 2) → -1 ≤ zco J k f line i t ∧ zco J k f line i t ≤ 2000 := by
            have b1 := hb (i - 1) (t - 1)
            have b2 := hb (i - 1) t
            have b3 := hb i (t - 1)
            have b4 := zmq_bd hA (i - 1) (t - 1)
            have b5 := zms_bd hA (i - 1)
            rw [hC] at c0 c1 c2
            intro k hk
            rcases hk with rfl | rfl | rfl
            · rw [c0]; repeat' split
              all_goals omega
            · rw [c1]; split <;> omega
            · rw [c2]; split <;> omega
          rw [hC] at hle
          have cc : ∀ k : Int, (k = 0 ∨ k = 1 ∨ k = 2) → ∀ (l : Launch) (D : va_G) (cs : Nat → ClassId), l.stackTraces = false → zMt l yX4_costOf cX4_costOf 8 (some .int) rm_X4_costOf D cs F J [.ref (F.1 110), .int (zI k), .int (zI f), .int (zI line), .int (zI i), .int (zI t)] (fun r I' => r = some (.int (zI (zco J k f line i t))) ∧ I' = J) := fun k hk =>
            c_X4_costOf hL hrJ (by omega) h1 h2 (by omega) (by omega) g5 g6 (fun _ q1 q2 => by
              have := g10 (i - 1) (by omega)
              rw [show 40 * f + ((i : Int) - 1) = 40 * f + ((i - 1 : Nat) : Int) by omega] at q2 ⊢
              exact this q2) (fun _ q1 => by
              have := g11 (t - 1) (by omega)
              rw [show 30 * line + (t : Int) - 1 = 30 * line + ((t - 1 : Nat) : Int) by omega]
              exact this) g7 g8 g9
          have s44 : ∀ (k a : Int), (k = 0 ∨ k = 1 ∨ k = 2) → (0 ≤ a ∧ a < 2147483648) → zW G F 0 0 J [(0, .ref (F.1 110)), (1, .int (zI f)), (2, .int (zI line)), (3, .int (zI i)), (4, .int (zI t)), (5, .int (zI (zle a (zco J k f line i t)))), (6, .int (zI (k + 1)))] [] 44 → zW G F 0 0 J [(0, .ref (F.1 110)), (1, .int (zI f)), (2, .int (zI line)), (3, .int (zI i)), (4, .int (zI t)), (5, .int (zI a)), (6, .int (zI k))] [] 44 := by
            intro k a hk ha hnx
            have cbk := cb k hk
            refine s_X4_align_44 (v58 := zco J k f line i t) hG hR hE hL hrJ h1 h2 (by omega) (by omega) ha (by omega) (fun q => absurd q (by omega)) (fun _ => cc k hk) (by omega) (fun _ q => ?_) (fun _ q => ?_)
            · unfold zle at hnx
              rw [if_pos q] at hnx
              exact hnx
            · unfold zle at hnx
              rw [if_neg q] at hnx
              exact hnx
          have zb_ : ∀ (k a : Int), (k = 0 ∨ k = 1 ∨ k = 2) → (0 ≤ a ∧ a < 2147483648) → 0 ≤ zle a (zco J k f line i t) ∧ zle a (zco J k f line i t) < 2147483648 := fun k a hk ha => by
            have := cb k hk
            unfold zle
            split <;> omega
          have go : ∀ a : Int, a = (if i + t = 0 then 0 else 2147483647) → zW G F 0 0 J [(0, .ref (F.1 110)), (1, .int (zI f)), (2, .int (zI line)), (3, .int (zI i)), (4, .int (zI t)), (5, .int (zI a)), (6, .int (zI 0))] [] 44 := by
            intro a ha
            have ha2 : 0 ≤ a ∧ a < 2147483648 := by rw [ha]; split <;> omega
            have b0 := zb_ 0 a (by omega) ha2
            have b1 := zb_ 1 _ (by omega) b0
            have b2 := zb_ 2 _ (by omega) b1
            refine s44 0 a (by omega) ha2 (s44 1 _ (by omega) b0 (s44 2 _ (by omega) b1 ?_))
            rw [ha] at b2 ⊢
            rw [hle] at b2 ⊢
            exact s_X4_align_44 (v58 := 0) hG hR hE hL hrJ h1 h2 (by omega) (by omega) b2 (by omega) (fun _ => hn) (fun q => absurd q (by decide)) (by omega) (fun q => absurd q (by decide)) (fun q => absurd q (by decide))
          refine s_X4_align_15 hG hR hE hL hrJ h1 h2 (by omega) (by omega) (by omega) (by omega) (fun q => absurd q (by omega)) (fun _ q => go _ ?_) (fun _ q => go _ ?_)
          · rw [if_neg (by omega)]
          · rw [if_pos (by omega)]
      have := inner (m + 1) 0 (by omega)
      rw [zfl_0] at this
      exact this
  exact outer (n + 1) 0 (by omega)
