abbrev rm_X4_fits : Room := { frames := 4, cells := 1, slots := 1271, locals := 93 }
set_option maxRecDepth 100000 in
set_option maxHeartbeats 4000000 in
theorem s_X4_fits_34 {G : zCx} {F : zFr} {I : zStore} {post : Option Value → zStore → Prop}{x : Nat} {line slot : Int} (hG : zOK G "LineLearnerModel" cX4_fits 6) (hR : zRoom G rm_X4_fits) (hE : zRetZ G F cX4_fits 1 1271 post) (hL : zLayM F) (hr : zRg I) (hx_x : 129 ≤ x) (hl_x : x < F.2.1) (hy_x : F.2.2 x = .inr (.inl (2, 1271))) (hl : 0 ≤ line ∧ line < 12) (h3 : 0 ≤ slot ∧ slot ≤ 41) (hf : 0 ≤ I 118 0 ∧ I 118 0 ≤ 40) (hm : 0 ≤ I 114 line ∧ I 114 line ≤ 30) (hz : ∀ i : Int, I x i = 0 ∨ I x i = 1)
    (k1 : ((I 118 0) < slot) → post (some (.int (zI (I x (31 * (I 118 0) + (I 114 line)))))) I)
    (k2 : (slot ≤ (I 118 0)) → zW G F 1 1271 I [(0, .ref (F.1 110)), (1, .int (zI line)), (2, .ref (F.1 x)), (3, .int (zI slot)), (4, .int (zI 0))] [] 47) :
    zW G F 1 1271 I [(0, .ref (F.1 110)), (1, .int (zI line)), (2, .ref (F.1 x)), (3, .int (zI slot))] [] 34 := by
  refine z_iload_n 3 hG dX4_fits_34 rfl rfl ?_
  refine z_aload_n 0 hG dX4_fits_35 rfl rfl ?_
  refine z_getR (t := 118) hG zcl4 (zltM hL (by decide)) (zl110 hL) 13 (by decide) rfl kw690 dX4_fits_36 ?_
  refine z_iconst 0 hG dX4_fits_39 ?_
  refine z_iald (v := I 118 0) hG (zltM hL (by decide)) (zl118 hL) (by decide) (by decide) rfl dX4_fits_40 ?_
  refine z_icmp_gt (tgt := 189) hG dX4_fits_41 (by decide) (by omega) (hr _ _) (fun c41 => ?_) (fun c41 => ?_)
  · skip
    refine z_aload_n 2 hG dX4_fits_189 rfl rfl ?_
    refine z_aload_n 0 hG dX4_fits_190 rfl rfl ?_
    refine z_getR (t := 118) hG zcl4 (zltM hL (by decide)) (zl110 hL) 13 (by decide) rfl kw690 dX4_fits_191 ?_
    refine z_iconst 0 hG dX4_fits_194 ?_
    refine z_iald (v := I 118 0) hG (zltM hL (by decide)) (zl118 hL) (by decide) (by decide) rfl dX4_fits_195 ?_
    refine z_aload_n 0 hG dX4_fits_196 rfl rfl ?_
    refine z_getR (t := 114) hG zcl4 (zltM hL (by decide)) (zl110 hL) 6 (by decide) rfl kw683 dX4_fits_197 ?_
    refine z_iload_n 1 hG dX4_fits_200 rfl rfl ?_
    refine z_iald (v := I 114 line) hG (zltM hL (by decide)) (zl114 hL) (by decide) (by omega) rfl dX4_fits_201 ?_
    refine z_callS [.int (zI (I 118 0)), .int (zI (I 114 line))] hG hR (c_X4_cell hr) hd_X4_cell kw833 kw834 (by decide) (by decide) (by decide) (by decide) rfl rfl (Nat.le_of_ble_eq_true rfl) dX4_fits_202 (fun r I' hp => ?_)
    rw [hp.1, hp.2]
    show zW G F 1 1271 I [(0, .ref (F.1 110)), (1, .int (zI line)), (2, .ref (F.1 x)), (3, .int (zI slot))] [.int (zI (31 * (I 118 0) + (I 114 line))), .ref (F.1 x)] 205
    have hi205 := hz (31 * (I 118 0) + (I 114 line))
    refine z_zald (v := I x (31 * (I 118 0) + (I 114 line))) hG hl_x hy_x (by decide) (by omega) rfl dX4_fits_205 ?_
    exact hE _ _ _ _ dX4_fits_206 (by first | decide | omega) (k1 c41)
  · skip
    refine z_iconst 0 hG dX4_fits_44 ?_
    refine z_istore (lv' := [(4, .int (zI 0)), (0, .ref (F.1 110)), (1, .int (zI line)), (2, .ref (F.1 x)), (3, .int (zI slot))]) hG dX4_fits_45 (by decide) rfl ?_
    refine z_perm (lv' := [(0, .ref (F.1 110)), (1, .int (zI line)), (2, .ref (F.1 x)), (3, .int (zI slot)), (4, .int (zI 0))]) [1, 2, 3, 4, 0] rfl ?_
    exact k2 c41

set_option maxRecDepth 100000 in
set_option maxHeartbeats 4000000 in
theorem s_X4_fits_47 {G : zCx} {F : zFr} {I : zStore} {post : Option Value → zStore → Prop}{x : Nat} {line slot token : Int} (hG : zOK G "LineLearnerModel" cX4_fits 6) (hR : zRoom G rm_X4_fits) (hE : zRetZ G F cX4_fits 1 1271 post) (hL : zLayM F) (hr : zRg I) (hx_x : 129 ≤ x) (hl_x : x < F.2.1) (hy_x : F.2.2 x = .inr (.inl (2, 1271))) (hl : 0 ≤ line ∧ line < 12) (h3 : 0 ≤ slot ∧ slot ≤ 40) (hf : 0 ≤ I 118 0 ∧ I 118 0 ≤ 40) (hm : 0 ≤ I 114 line ∧ I 114 line ≤ 30) (h4 : 0 ≤ token ∧ token ≤ 31)
    (k1 : ((I 114 line) < token) → zW G F 1 1271 I [(0, .ref (F.1 110)), (1, .int (zI line)), (2, .ref (F.1 x)), (3, .int (zI (slot + 1)))] [] 34)
    (k2 : (token ≤ (I 114 line)) → ((slot + token) ≠ 0) → zW G F 1 1271 I [(0, .ref (F.1 110)), (1, .int (zI line)), (2, .ref (F.1 x)), (3, .int (zI slot)), (4, .int (zI token)), (5, .int (zI 0))] [] 72)
    (k3 : (token ≤ (I 114 line)) → ((slot + token) = 0) → zW G F 1 1271 I [(0, .ref (F.1 110)), (1, .int (zI line)), (2, .ref (F.1 x)), (3, .int (zI slot)), (4, .int (zI token)), (5, .int (zI 1))] [] 72) :
    zW G F 1 1271 I [(0, .ref (F.1 110)), (1, .int (zI line)), (2, .ref (F.1 x)), (3, .int (zI slot)), (4, .int (zI token))] [] 47 := by
  refine z_iload 4 hG dX4_fits_47 rfl ?_
  refine z_aload_n 0 hG dX4_fits_49 rfl rfl ?_
  refine z_getR (t := 114) hG zcl4 (zltM hL (by decide)) (zl110 hL) 6 (by decide) rfl kw683 dX4_fits_50 ?_
  refine z_iload_n 1 hG dX4_fits_53 rfl rfl ?_
  refine z_iald (v := I 114 line) hG (zltM hL (by decide)) (zl114 hL) (by decide) (by omega) rfl dX4_fits_54 ?_
  refine z_icmp_gt (tgt := 183) hG dX4_fits_55 (by decide) (by omega) (hr _ _) (fun c55 => ?_) (fun c55 => ?_)
  · skip
    refine z_iinc (lv' := [(3, .int (zI (slot + 1))), (0, .ref (F.1 110)), (1, .int (zI line)), (2, .ref (F.1 x)), (4, .int (zI token))]) 3 hG dX4_fits_183 rfl (by decide) rfl ?_
    refine z_goto (tgt := 34) hG dX4_fits_186 (by decide) ?_
    refine z_perm (lv' := [(0, .ref (F.1 110)), (1, .int (zI line)), (2, .ref (F.1 x)), (3, .int (zI (slot + 1)))]) [1, 2, 3, 0] rfl ?_
    exact k1 c55
  · skip
    refine z_iload_n 3 hG dX4_fits_58 rfl rfl ?_
    refine z_iload 4 hG dX4_fits_59 rfl ?_
    refine z_iadd hG dX4_fits_61 ?_
    refine z_if_ne (tgt := 69) hG dX4_fits_62 (by decide) (by omega) (fun c62 => ?_) (fun c62 => ?_)
    · skip
      refine z_iconst 0 hG dX4_fits_69 ?_
      refine z_istore (lv' := [(5, .int (zI 0)), (0, .ref (F.1 110)), (1, .int (zI line)), (2, .ref (F.1 x)), (3, .int (zI slot)), (4, .int (zI token))]) hG dX4_fits_70 (by decide) rfl ?_
      refine z_perm (lv' := [(0, .ref (F.1 110)), (1, .int (zI line)), (2, .ref (F.1 x)), (3, .int (zI slot)), (4, .int (zI token)), (5, .int (zI 0))]) [1, 2, 3, 4, 5, 0] rfl ?_
      exact k2 c55 c62
    · skip
      refine z_iconst 1 hG dX4_fits_65 ?_
      refine z_goto (tgt := 70) hG dX4_fits_66 (by decide) ?_
      refine z_istore (lv' := [(5, .int (zI 1)), (0, .ref (F.1 110)), (1, .int (zI line)), (2, .ref (F.1 x)), (3, .int (zI slot)), (4, .int (zI token))]) hG dX4_fits_70 (by decide) rfl ?_
      refine z_perm (lv' := [(0, .ref (F.1 110)), (1, .int (zI line)), (2, .ref (F.1 x)), (3, .int (zI slot)), (4, .int (zI token)), (5, .int (zI 1))]) [1, 2, 3, 4, 5, 0] rfl ?_
      exact k3 c55 c62

set_option maxRecDepth 100000 in
set_option maxHeartbeats 4000000 in
theorem s_X4_fits_72 {G : zCx} {F : zFr} {I : zStore} {post : Option Value → zStore → Prop}{x : Nat} {line slot token is : Int} {v99 : Int} (hG : zOK G "LineLearnerModel" cX4_fits 6) (hR : zRoom G rm_X4_fits) (hE : zRetZ G F cX4_fits 1 1271 post) (hL : zLayM F) (hr : zRg I) (hx_x : 129 ≤ x) (hl_x : x < F.2.1) (hy_x : F.2.2 x = .inr (.inl (2, 1271))) (h3 : 0 ≤ slot ∧ slot ≤ 40) (h4 : 0 ≤ token ∧ token ≤ 30) (h5 : is = 0 ∨ is = 1) (hz : ∀ i : Int, I x i = 0 ∨ I x i = 1)
    (k1 : (is ≠ 0) → zW G F 1 1271 I [(0, .ref (F.1 110)), (1, .int (zI line)), (2, .ref (F.1 x)), (3, .int (zI slot)), (4, .int (zI token)), (5, .int (zI 1))] [] 112)
    (k2 : (is = 0) → (slot ≤ 0) → zW G F 1 1271 I [(0, .ref (F.1 110)), (1, .int (zI line)), (2, .ref (F.1 x)), (3, .int (zI slot)), (4, .int (zI token)), (5, .int (zI 0))] [] 112)
    (k3 : (is = 0) → (0 < slot) → ((I x (31 * (slot - 1) + token)) = 0) → zW G F 1 1271 I [(0, .ref (F.1 110)), (1, .int (zI line)), (2, .ref (F.1 x)), (3, .int (zI slot)), (4, .int (zI token)), (5, .int (zI 0))] [] 112)
    (kc99 : (is = 0) → (0 < slot) → ((I x (31 * (slot - 1) + token)) ≠ 0) → ∀ (l : Launch) (D : va_G) (cs : Nat → ClassId), l.stackTraces = false → zMt l yX4_isFree cX4_isFree 3 (some .boolean) rm_X4_isFree D cs F I [.ref (F.1 110), .int (zI 0), .int (zI (slot - 1))] (fun r I' => r = some (.int (zI v99)) ∧ I' = I))
    (hv99 : v99 = 0 ∨ v99 = 1)
    (k6 : (is = 0) → (0 < slot) → ((I x (31 * (slot - 1) + token)) ≠ 0) → (v99 = 0) → zW G F 1 1271 I [(0, .ref (F.1 110)), (1, .int (zI line)), (2, .ref (F.1 x)), (3, .int (zI slot)), (4, .int (zI token)), (5, .int (zI 0))] [] 112)
    (k7 : (is = 0) → (0 < slot) → ((I x (31 * (slot - 1) + token)) ≠ 0) → (v99 ≠ 0) → zW G F 1 1271 I [(0, .ref (F.1 110)), (1, .int (zI line)), (2, .ref (F.1 x)), (3, .int (zI slot)), (4, .int (zI token)), (5, .int (zI 1))] [] 112) :
    zW G F 1 1271 I [(0, .ref (F.1 110)), (1, .int (zI line)), (2, .ref (F.1 x)), (3, .int (zI slot)), (4, .int (zI token)), (5, .int (zI is))] [] 72 := by
  refine z_iload 5 hG dX4_fits_72 rfl ?_
  refine z_if_ne (tgt := 105) hG dX4_fits_74 (by decide) (by omega) (fun c74 => ?_) (fun c74 => ?_)
  · skip
    refine z_iconst 1 hG dX4_fits_105 ?_
    refine z_goto (tgt := 110) hG dX4_fits_106 (by decide) ?_
    refine z_istore (lv' := [(5, .int (zI 1)), (0, .ref (F.1 110)), (1, .int (zI line)), (2, .ref (F.1 x)), (3, .int (zI slot)), (4, .int (zI token))]) hG dX4_fits_110 (by decide) rfl ?_
    refine z_perm (lv' := [(0, .ref (F.1 110)), (1, .int (zI line)), (2, .ref (F.1 x)), (3, .int (zI slot)), (4, .int (zI token)), (5, .int (zI 1))]) [1, 2, 3, 4, 5, 0] rfl ?_
    exact k1 c74
  · skip
    refine z_iload_n 3 hG dX4_fits_77 rfl rfl ?_
    refine z_if_le (tgt := 109) hG dX4_fits_78 (by decide) (by omega) (fun c78 => ?_) (fun c78 => ?_)
    · skip
      refine z_iconst 0 hG dX4_fits_109 ?_
      refine z_istore (lv' := [(5, .int (zI 0)), (0, .ref (F.1 110)), (1, .int (zI line)), (2, .ref (F.1 x)), (3, .int (zI slot)), (4, .int (zI token))]) hG dX4_fits_110 (by decide) rfl ?_
      refine z_perm (lv' := [(0, .ref (F.1 110)), (1, .int (zI line)), (2, .ref (F.1 x)), (3, .int (zI slot)), (4, .int (zI token)), (5, .int (zI 0))]) [1, 2, 3, 4, 5, 0] rfl ?_
      exact k2 c74 c78
    · skip
      refine z_aload_n 2 hG dX4_fits_81 rfl rfl ?_
      refine z_iload_n 3 hG dX4_fits_82 rfl rfl ?_
      refine z_iconst 1 hG dX4_fits_83 ?_
      refine z_isub hG dX4_fits_84 ?_
      refine z_iload 4 hG dX4_fits_85 rfl ?_
      refine z_callS [.int (zI (slot - 1)), .int (zI token)] hG hR (c_X4_cell hr) hd_X4_cell kw833 kw834 (by decide) (by decide) (by decide) (by decide) rfl rfl (Nat.le_of_ble_eq_true rfl) dX4_fits_87 (fun r I' hp => ?_)
      rw [hp.1, hp.2]
      show zW G F 1 1271 I [(0, .ref (F.1 110)), (1, .int (zI line)), (2, .ref (F.1 x)), (3, .int (zI slot)), (4, .int (zI token)), (5, .int (zI is))] [.int (zI (31 * (slot - 1) + token)), .ref (F.1 x)] 90
      have hi90 := hz (31 * (slot - 1) + token)
      refine z_zald (v := I x (31 * (slot - 1) + token)) hG hl_x hy_x (by decide) (by omega) rfl dX4_fits_90 ?_
      refine z_if_eq (tgt := 109) hG dX4_fits_91 (by decide) (hr _ _) (fun c91 => ?_) (fun c91 => ?_)
      · skip
        refine z_iconst 0 hG dX4_fits_109 ?_
        refine z_istore (lv' := [(5, .int (zI 0)), (0, .ref (F.1 110)), (1, .int (zI line)), (2, .ref (F.1 x)), (3, .int (zI slot)), (4, .int (zI token))]) hG dX4_fits_110 (by decide) rfl ?_
        refine z_perm (lv' := [(0, .ref (F.1 110)), (1, .int (zI line)), (2, .ref (F.1 x)), (3, .int (zI slot)), (4, .int (zI token)), (5, .int (zI 0))]) [1, 2, 3, 4, 5, 0] rfl ?_
        exact k3 c74 c78 c91
      · skip
        refine z_aload_n 0 hG dX4_fits_94 rfl rfl ?_
        refine z_iconst 0 hG dX4_fits_95 ?_
        refine z_iload_n 3 hG dX4_fits_96 rfl rfl ?_
        refine z_iconst 1 hG dX4_fits_97 ?_
        refine z_isub hG dX4_fits_98 ?_
        refine z_callV [.int (zI 0), .int (zI (slot - 1))] hG hR (kc99 c74 c78 c91) hd_X4_isFree kw836 kw838 kp29 rfl (zltM hL (by decide)) (zl110 hL) (by decide) (by decide) (by decide) (by decide) rfl rfl (Nat.le_of_ble_eq_true rfl) dX4_fits_99 (fun r I' hp => ?_)
        rw [hp.1, hp.2]
        show zW G F 1 1271 I [(0, .ref (F.1 110)), (1, .int (zI line)), (2, .ref (F.1 x)), (3, .int (zI slot)), (4, .int (zI token)), (5, .int (zI is))] [.int (zI v99)] 102
        refine z_if_eq (tgt := 109) hG dX4_fits_102 (by decide) (by omega) (fun c102 => ?_) (fun c102 => ?_)
        · skip
          refine z_iconst 0 hG dX4_fits_109 ?_
          refine z_istore (lv' := [(5, .int (zI 0)), (0, .ref (F.1 110)), (1, .int (zI line)), (2, .ref (F.1 x)), (3, .int (zI slot)), (4, .int (zI token))]) hG dX4_fits_110 (by decide) rfl ?_
          refine z_perm (lv' := [(0, .ref (F.1 110)), (1, .int (zI line)), (2, .ref (F.1 x)), (3, .int (zI slot)), (4, .int (zI token)), (5, .int (zI 0))]) [1, 2, 3, 4, 5, 0] rfl ?_
          exact k6 c74 c78 c91 c102
        · skip
          refine z_iconst 1 hG dX4_fits_105 ?_
          refine z_goto (tgt := 110) hG dX4_fits_106 (by decide) ?_
          refine z_istore (lv' := [(5, .int (zI 1)), (0, .ref (F.1 110)), (1, .int (zI line)), (2, .ref (F.1 x)), (3, .int (zI slot)), (4, .int (zI token))]) hG dX4_fits_110 (by decide) rfl ?_
          refine z_perm (lv' := [(0, .ref (F.1 110)), (1, .int (zI line)), (2, .ref (F.1 x)), (3, .int (zI slot)), (4, .int (zI token)), (5, .int (zI 1))]) [1, 2, 3, 4, 5, 0] rfl ?_
          exact k7 c74 c78 c91 c102

set_option maxRecDepth 100000 in
set_option maxHeartbeats 4000000 in
theorem s_X4_fits_112 {G : zCx} {F : zFr} {I : zStore} {post : Option Value → zStore → Prop}{x : Nat} {line slot token is : Int} {v154 : Int} (hG : zOK G "LineLearnerModel" cX4_fits 6) (hR : zRoom G rm_X4_fits) (hE : zRetZ G F cX4_fits 1 1271 post) (hL : zLayM F) (hr : zRg I) (hx_x : 129 ≤ x) (hl_x : x < F.2.1) (hy_x : F.2.2 x = .inr (.inl (2, 1271))) (h3 : 0 ≤ slot ∧ slot ≤ 40) (h4 : 0 ≤ token ∧ token ≤ 30) (h5 : is = 0 ∨ is = 1) (hz : ∀ i : Int, I x i = 0 ∨ I x i = 1) (hl : 0 ≤ line ∧ line < 12)
    (k1 : (is ≠ 0) → zW G F 1 1271 I [(0, .ref (F.1 110)), (1, .int (zI line)), (2, .ref (F.1 x)), (3, .int (zI slot)), (4, .int (zI token)), (5, .int (zI 1))] [] 167)
    (k2 : (is = 0) → (slot ≤ 0) → zW G F 1 1271 I [(0, .ref (F.1 110)), (1, .int (zI line)), (2, .ref (F.1 x)), (3, .int (zI slot)), (4, .int (zI token)), (5, .int (zI 0))] [] 167)
    (k3 : (is = 0) → (0 < slot) → (token ≤ 0) → zW G F 1 1271 I [(0, .ref (F.1 110)), (1, .int (zI line)), (2, .ref (F.1 x)), (3, .int (zI slot)), (4, .int (zI token)), (5, .int (zI 0))] [] 167)
    (k4 : (is = 0) → (0 < slot) → (0 < token) → ((I x (31 * (slot - 1) + (token - 1))) = 0) → zW G F 1 1271 I [(0, .ref (F.1 110)), (1, .int (zI line)), (2, .ref (F.1 x)), (3, .int (zI slot)), (4, .int (zI token)), (5, .int (zI 0))] [] 167)
    (kc154 : (is = 0) → (0 < slot) → (0 < token) → ((I x (31 * (slot - 1) + (token - 1))) ≠ 0) → ∀ (l : Launch) (D : va_G) (cs : Nat → ClassId), l.stackTraces = false → zMt l yX4_canPair cX4_canPair 4 (some .boolean) rm_X4_canPair D cs F I [.ref (F.1 110), .int (zI (slot - 1)), .int (zI (((30 * line) + token) - 1))] (fun r I' => r = some (.int (zI v154)) ∧ I' = I))
    (hv154 : v154 = 0 ∨ v154 = 1)
    (k7 : (is = 0) → (0 < slot) → (0 < token) → ((I x (31 * (slot - 1) + (token - 1))) ≠ 0) → (v154 = 0) → zW G F 1 1271 I [(0, .ref (F.1 110)), (1, .int (zI line)), (2, .ref (F.1 x)), (3, .int (zI slot)), (4, .int (zI token)), (5, .int (zI 0))] [] 167)
    (k8 : (is = 0) → (0 < slot) → (0 < token) → ((I x (31 * (slot - 1) + (token - 1))) ≠ 0) → (v154 ≠ 0) → zW G F 1 1271 I [(0, .ref (F.1 110)), (1, .int (zI line)), (2, .ref (F.1 x)), (3, .int (zI slot)), (4, .int (zI token)), (5, .int (zI 1))] [] 167) :
    zW G F 1 1271 I [(0, .ref (F.1 110)), (1, .int (zI line)), (2, .ref (F.1 x)), (3, .int (zI slot)), (4, .int (zI token)), (5, .int (zI is))] [] 112 := by
  refine z_iload 5 hG dX4_fits_112 rfl ?_
  refine z_if_ne (tgt := 160) hG dX4_fits_114 (by decide) (by omega) (fun c114 => ?_) (fun c114 => ?_)
  · skip
    refine z_iconst 1 hG dX4_fits_160 ?_
    refine z_goto (tgt := 165) hG dX4_fits_161 (by decide) ?_
    refine z_istore (lv' := [(5, .int (zI 1)), (0, .ref (F.1 110)), (1, .int (zI line)), (2, .ref (F.1 x)), (3, .int (zI slot)), (4, .int (zI token))]) hG dX4_fits_165 (by decide) rfl ?_
    refine z_perm (lv' := [(0, .ref (F.1 110)), (1, .int (zI line)), (2, .ref (F.1 x)), (3, .int (zI slot)), (4, .int (zI token)), (5, .int (zI 1))]) [1, 2, 3, 4, 5, 0] rfl ?_
    exact k1 c114
  · skip
    refine z_iload_n 3 hG dX4_fits_117 rfl rfl ?_
    refine z_if_le (tgt := 164) hG dX4_fits_118 (by decide) (by omega) (fun c118 => ?_) (fun c118 => ?_)
    · skip
      refine z_iconst 0 hG dX4_fits_164 ?_
      refine z_istore (lv' := [(5, .int (zI 0)), (0, .ref (F.1 110)), (1, .int (zI line)), (2, .ref (F.1 x)), (3, .int (zI slot)), (4, .int (zI token))]) hG dX4_fits_165 (by decide) rfl ?_
      refine z_perm (lv' := [(0, .ref (F.1 110)), (1, .int (zI line)), (2, .ref (F.1 x)), (3, .int (zI slot)), (4, .int (zI token)), (5, .int (zI 0))]) [1, 2, 3, 4, 5, 0] rfl ?_
      exact k2 c114 c118
    · skip
      refine z_iload 4 hG dX4_fits_121 rfl ?_
      refine z_if_le (tgt := 164) hG dX4_fits_123 (by decide) (by omega) (fun c123 => ?_) (fun c123 => ?_)
      · skip
        refine z_iconst 0 hG dX4_fits_164 ?_
        refine z_istore (lv' := [(5, .int (zI 0)), (0, .ref (F.1 110)), (1, .int (zI line)), (2, .ref (F.1 x)), (3, .int (zI slot)), (4, .int (zI token))]) hG dX4_fits_165 (by decide) rfl ?_
        refine z_perm (lv' := [(0, .ref (F.1 110)), (1, .int (zI line)), (2, .ref (F.1 x)), (3, .int (zI slot)), (4, .int (zI token)), (5, .int (zI 0))]) [1, 2, 3, 4, 5, 0] rfl ?_
        exact k3 c114 c118 c123
      · skip
        refine z_aload_n 2 hG dX4_fits_126 rfl rfl ?_
        refine z_iload_n 3 hG dX4_fits_127 rfl rfl ?_
        refine z_iconst 1 hG dX4_fits_128 ?_
        refine z_isub hG dX4_fits_129 ?_
        refine z_iload 4 hG dX4_fits_130 rfl ?_
        refine z_iconst 1 hG dX4_fits_132 ?_
        refine z_isub hG dX4_fits_133 ?_
        refine z_callS [.int (zI (slot - 1)), .int (zI (token - 1))] hG hR (c_X4_cell hr) hd_X4_cell kw833 kw834 (by decide) (by decide) (by decide) (by decide) rfl rfl (Nat.le_of_ble_eq_true rfl) dX4_fits_134 (fun r I' hp => ?_)
        rw [hp.1, hp.2]
        show zW G F 1 1271 I [(0, .ref (F.1 110)), (1, .int (zI line)), (2, .ref (F.1 x)), (3, .int (zI slot)), (4, .int (zI token)), (5, .int (zI is))] [.int (zI (31 * (slot - 1) + (token - 1))), .ref (F.1 x)] 137
        have hi137 := hz (31 * (slot - 1) + (token - 1))
        refine z_zald (v := I x (31 * (slot - 1) + (token - 1))) hG hl_x hy_x (by decide) (by omega) rfl dX4_fits_137 ?_
        refine z_if_eq (tgt := 164) hG dX4_fits_138 (by decide) (hr _ _) (fun c138 => ?_) (fun c138 => ?_)
        · skip
          refine z_iconst 0 hG dX4_fits_164 ?_
          refine z_istore (lv' := [(5, .int (zI 0)), (0, .ref (F.1 110)), (1, .int (zI line)), (2, .ref (F.1 x)), (3, .int (zI slot)), (4, .int (zI token))]) hG dX4_fits_165 (by decide) rfl ?_
          refine z_perm (lv' := [(0, .ref (F.1 110)), (1, .int (zI line)), (2, .ref (F.1 x)), (3, .int (zI slot)), (4, .int (zI token)), (5, .int (zI 0))]) [1, 2, 3, 4, 5, 0] rfl ?_
          exact k4 c114 c118 c123 c138
        · skip
          refine z_aload_n 0 hG dX4_fits_141 rfl rfl ?_
          refine z_iload_n 3 hG dX4_fits_142 rfl rfl ?_
          refine z_iconst 1 hG dX4_fits_143 ?_
          refine z_isub hG dX4_fits_144 ?_
          refine z_bipush 30 hG dX4_fits_145 (by decide) ?_
          refine z_iload_n 1 hG dX4_fits_147 rfl rfl ?_
          refine z_imul hG dX4_fits_148 ?_
          refine z_iload 4 hG dX4_fits_149 rfl ?_
          refine z_iadd hG dX4_fits_151 ?_
          refine z_iconst 1 hG dX4_fits_152 ?_
          refine z_isub hG dX4_fits_153 ?_
          refine z_callV [.int (zI (slot - 1)), .int (zI (((30 * line) + token) - 1))] hG hR (kc154 c114 c118 c123 c138) hd_X4_canPair kw882 kw884 kp35 rfl (zltM hL (by decide)) (zl110 hL) (by decide) (by decide) (by decide) (by decide) rfl rfl (Nat.le_of_ble_eq_true rfl) dX4_fits_154 (fun r I' hp => ?_)
          rw [hp.1, hp.2]
          show zW G F 1 1271 I [(0, .ref (F.1 110)), (1, .int (zI line)), (2, .ref (F.1 x)), (3, .int (zI slot)), (4, .int (zI token)), (5, .int (zI is))] [.int (zI v154)] 157
          refine z_if_eq (tgt := 164) hG dX4_fits_157 (by decide) (by omega) (fun c157 => ?_) (fun c157 => ?_)
          · skip
            refine z_iconst 0 hG dX4_fits_164 ?_
            refine z_istore (lv' := [(5, .int (zI 0)), (0, .ref (F.1 110)), (1, .int (zI line)), (2, .ref (F.1 x)), (3, .int (zI slot)), (4, .int (zI token))]) hG dX4_fits_165 (by decide) rfl ?_
            refine z_perm (lv' := [(0, .ref (F.1 110)), (1, .int (zI line)), (2, .ref (F.1 x)), (3, .int (zI slot)), (4, .int (zI token)), (5, .int (zI 0))]) [1, 2, 3, 4, 5, 0] rfl ?_
            exact k7 c114 c118 c123 c138 c157
          · skip
            refine z_iconst 1 hG dX4_fits_160 ?_
            refine z_goto (tgt := 165) hG dX4_fits_161 (by decide) ?_
            refine z_istore (lv' := [(5, .int (zI 1)), (0, .ref (F.1 110)), (1, .int (zI line)), (2, .ref (F.1 x)), (3, .int (zI slot)), (4, .int (zI token))]) hG dX4_fits_165 (by decide) rfl ?_
            refine z_perm (lv' := [(0, .ref (F.1 110)), (1, .int (zI line)), (2, .ref (F.1 x)), (3, .int (zI slot)), (4, .int (zI token)), (5, .int (zI 1))]) [1, 2, 3, 4, 5, 0] rfl ?_
            exact k8 c114 c118 c123 c138 c157

set_option maxRecDepth 100000 in
set_option maxHeartbeats 4000000 in
theorem s_X4_fits_167 {G : zCx} {F : zFr} {I : zStore} {post : Option Value → zStore → Prop}{x : Nat} {line slot token is : Int} (hG : zOK G "LineLearnerModel" cX4_fits 6) (hR : zRoom G rm_X4_fits) (hE : zRetZ G F cX4_fits 1 1271 post) (hL : zLayM F) (hr : zRg I) (hx_x : 129 ≤ x) (hl_x : x < F.2.1) (hy_x : F.2.2 x = .inr (.inl (2, 1271))) (h3 : 0 ≤ slot ∧ slot ≤ 40) (h4 : 0 ≤ token ∧ token ≤ 30) (h5 : is = 0 ∨ is = 1)
    (k1 : zW G F 1 1271 (zup I x (31 * slot + token) is) [(0, .ref (F.1 110)), (1, .int (zI line)), (2, .ref (F.1 x)), (3, .int (zI slot)), (4, .int (zI (token + 1)))] [] 47) :
    zW G F 1 1271 I [(0, .ref (F.1 110)), (1, .int (zI line)), (2, .ref (F.1 x)), (3, .int (zI slot)), (4, .int (zI token)), (5, .int (zI is))] [] 167 := by
  refine z_aload_n 2 hG dX4_fits_167 rfl rfl ?_
  refine z_iload_n 3 hG dX4_fits_168 rfl rfl ?_
  refine z_iload 4 hG dX4_fits_169 rfl ?_
  refine z_callS [.int (zI slot), .int (zI token)] hG hR (c_X4_cell hr) hd_X4_cell kw833 kw834 (by decide) (by decide) (by decide) (by decide) rfl rfl (Nat.le_of_ble_eq_true rfl) dX4_fits_171 (fun r I' hp => ?_)
  rw [hp.1, hp.2]
  show zW G F 1 1271 I [(0, .ref (F.1 110)), (1, .int (zI line)), (2, .ref (F.1 x)), (3, .int (zI slot)), (4, .int (zI token)), (5, .int (zI is))] [.int (zI (31 * slot + token)), .ref (F.1 x)] 174
  refine z_iload 5 hG dX4_fits_174 rfl ?_
  refine z_zast hG hl_x hy_x (by decide) (by omega) (by first | decide | omega) dX4_fits_176 ?_
  refine z_iinc (lv' := [(4, .int (zI (token + 1))), (0, .ref (F.1 110)), (1, .int (zI line)), (2, .ref (F.1 x)), (3, .int (zI slot)), (5, .int (zI is))]) 4 hG dX4_fits_177 rfl (by decide) rfl ?_
  refine z_goto (tgt := 47) hG dX4_fits_180 (by decide) ?_
  refine z_perm (lv' := [(0, .ref (F.1 110)), (1, .int (zI line)), (2, .ref (F.1 x)), (3, .int (zI slot)), (4, .int (zI (token + 1)))]) [1, 2, 3, 4, 0] rfl ?_
  exact k1

set_option maxRecDepth 100000 in
set_option maxHeartbeats 4000000 in
theorem s_X4_fits_0 {G : zCx} {F : zFr} {I : zStore} {post : Option Value → zStore → Prop}{line : Int} (hG : zOK G "LineLearnerModel" cX4_fits 6) (hR : zRoom G rm_X4_fits) (hE : zRetZ G F cX4_fits 1 1271 post) (hL : zLayM F) (hr : zRg I) (hl : -2147483648 ≤ line ∧ line < 2147483648)
    (k1 : (¬ (0 ≤ line ∧ line < I 110 3)) → ((1 : Int) ≠ 0) → post (some (.int (zI 0))) (zup I 110 0 1))
    (k2 : (0 ≤ line ∧ line < I 110 3) → ((0 : Int) = 0) → zW G F 0 0 (zup I 110 0 0) [(0, .ref (F.1 110)), (1, .int (zI line))] [] 26) :
    zW G F 0 0 I [(0, .ref (F.1 110)), (1, .int (zI line))] [] 0 := by
  refine z_aload_n 0 hG dX4_fits_0 rfl rfl ?_
  refine z_aload_n 0 hG dX4_fits_1 rfl rfl ?_
  refine z_iload_n 1 hG dX4_fits_2 rfl rfl ?_
  refine z_callV [.int (zI line)] hG hR (c_X4_isLine hL hr (by first | assumption | omega | ((try simp only [zup_k, zup_i, zup_at, ne_eq, not_false_eq_true, Nat.reduceEqDiff]); simp only [zup_at]; omega))) hd_X4_isLine kw787 kw789 kp24 rfl (zltM hL (by decide)) (zl110 hL) (by decide) (by decide) (by decide) (by decide) rfl rfl (Nat.le_of_ble_eq_true rfl) dX4_fits_3 (fun r I' hp => ?_)
  rw [hp.1, hp.2]
  show zW G F 0 0 I [(0, .ref (F.1 110)), (1, .int (zI line))] [.int (zI (if 0 ≤ line ∧ line < I 110 3 then 1 else 0)), .ref (F.1 110)] 6
  refine z_if_eq (tgt := 13) hG dX4_fits_6 (by decide) (by omega) (fun c6 => ?_) (fun c6 => ?_)
  · skip
    have c6b := zif_n c6
    refine z_iconst 1 hG dX4_fits_13 ?_
    refine z_putI hG zcl4 (zltM hL (by decide)) (zl110 hL) 0 (by decide) (ki := 0) rfl rfl kw677 rfl rfl dX4_fits_14 ?_
    refine z_aload_n 0 hG dX4_fits_17 rfl rfl ?_
    refine z_getI (v := 1) hG zcl4 (zltM hL (by decide)) (zl110 hL) 0 (by decide) rfl rfl (zup_at _ _ _ _) kw677 dX4_fits_18 ?_
    refine z_if_eq (tgt := 26) hG dX4_fits_21 (by decide) (by decide) (fun c21 => ?_) (fun c21 => ?_)
    · skip
      exact absurd c21 (by decide)
    · skip
      refine z_iconst 0 hG dX4_fits_24 ?_
      refine z_widen (k := 1) (n := 1271) (by decide) (by decide) hR (by decide) (by decide) ?_
      exact hE _ _ _ _ dX4_fits_25 (by first | decide | omega) (k1 c6b c21)
  · skip
    have c6b := zif_y c6
    refine z_iconst 0 hG dX4_fits_9 ?_
    refine z_goto (tgt := 14) hG dX4_fits_10 (by decide) ?_
    refine z_putI hG zcl4 (zltM hL (by decide)) (zl110 hL) 0 (by decide) (ki := 0) rfl rfl kw677 rfl rfl dX4_fits_14 ?_
    refine z_aload_n 0 hG dX4_fits_17 rfl rfl ?_
    refine z_getI (v := 0) hG zcl4 (zltM hL (by decide)) (zl110 hL) 0 (by decide) rfl rfl (zup_at _ _ _ _) kw677 dX4_fits_18 ?_
    refine z_if_eq (tgt := 26) hG dX4_fits_21 (by decide) (by decide) (fun c21 => ?_) (fun c21 => ?_)
    · skip
      exact k2 c6b c21
    · skip
      exact absurd c21 (by decide)

abbrev rm_X4_allBits : Room := { frames := 4, cells := 1, slots := 4, locals := 90 }
set_option maxRecDepth 100000 in
set_option maxHeartbeats 4000000 in
theorem s_X4_allBits_21 {G : zCx} {F : zFr} {I : zStore} {post : Option Value → zStore → Prop}{x : Nat} (hG : zOK G "LineLearnerModel" cX4_allBits 6) (hR : zRoom G rm_X4_allBits) (hE : zRetI G F cX4_allBits 1 4 post) (hL : zLayM F) (hr : zRg I) (hx_x : 129 ≤ x) (hl_x : x < F.2.1) (hy_x : F.2.2 x = .inr (.inl (0, 4)))
    (k1 : zW G F 1 4 I [(0, .ref (F.1 110)), (1, .ref (F.1 x)), (2, .int (zI 0)), (3, .int (zI 0))] [] 25) :
    zW G F 1 4 I [(0, .ref (F.1 110)), (1, .ref (F.1 x))] [] 21 := by
  refine z_iconst 0 hG dX4_allBits_21 ?_
  refine z_istore_n (lv' := [(2, .int (zI 0)), (0, .ref (F.1 110)), (1, .ref (F.1 x))]) hG dX4_allBits_22 rfl (by decide) rfl ?_
  refine z_iconst 0 hG dX4_allBits_23 ?_
  refine z_istore_n (lv' := [(3, .int (zI 0)), (2, .int (zI 0)), (0, .ref (F.1 110)), (1, .ref (F.1 x))]) hG dX4_allBits_24 rfl (by decide) rfl ?_
  refine z_perm (lv' := [(0, .ref (F.1 110)), (1, .ref (F.1 x)), (2, .int (zI 0)), (3, .int (zI 0))]) [2, 3, 1, 0] rfl ?_
  exact k1

set_option maxRecDepth 100000 in
set_option maxHeartbeats 4000000 in
theorem s_X4_allBits_25 {G : zCx} {F : zFr} {I : zStore} {post : Option Value → zStore → Prop}{x : Nat} {sum slot : Int} (hG : zOK G "LineLearnerModel" cX4_allBits 6) (hR : zRoom G rm_X4_allBits) (hE : zRetI G F cX4_allBits 1 4 post) (hL : zLayM F) (hr : zRg I) (hx_x : 129 ≤ x) (hl_x : x < F.2.1) (hy_x : F.2.2 x = .inr (.inl (0, 4))) (h3 : 0 ≤ slot ∧ slot ≤ 40) (hf : 0 ≤ I 118 0 ∧ I 118 0 ≤ 40) (hx : ∀ _u : Unit, slot < I 118 0 → (I 121 slot ≠ (-1) → 0 ≤ I 121 slot ∧ I 121 slot < 360))
    (k1 : ((I 118 0) ≤ slot) → post (some (.int (zI sum))) I)
    (k2 : (slot < (I 118 0)) → ((I 121 slot) = (-1)) → zW G F 1 4 I [(0, .ref (F.1 110)), (1, .ref (F.1 x)), (2, .int (zI (sum + 4))), (3, .int (zI slot))] [] 65)
    (k3 : (slot < (I 118 0)) → ((I 121 slot) ≠ (-1)) → zW G F 1 4 I [(0, .ref (F.1 110)), (1, .ref (F.1 x)), (2, .int (zI ((sum + 4) + (8 * (I 117 (I 121 slot)))))), (3, .int (zI slot))] [] 65) :
    zW G F 1 4 I [(0, .ref (F.1 110)), (1, .ref (F.1 x)), (2, .int (zI sum)), (3, .int (zI slot))] [] 25 := by
  refine z_iload_n 3 hG dX4_allBits_25 rfl rfl ?_
  refine z_aload_n 0 hG dX4_allBits_26 rfl rfl ?_
  refine z_getR (t := 118) hG zcl4 (zltM hL (by decide)) (zl110 hL) 13 (by decide) rfl kw690 dX4_allBits_27 ?_
  refine z_iconst 0 hG dX4_allBits_30 ?_
  refine z_iald (v := I 118 0) hG (zltM hL (by decide)) (zl118 hL) (by decide) (by decide) rfl dX4_allBits_31 ?_
  refine z_icmp_ge (tgt := 163) hG dX4_allBits_32 (by decide) (by omega) (hr _ _) (fun c32 => ?_) (fun c32 => ?_)
  · skip
    refine z_iload_n 2 hG dX4_allBits_163 rfl rfl ?_
    exact hE _ _ _ _ dX4_allBits_164 (k1 c32)
  · skip
    refine z_iinc (lv' := [(2, .int (zI (sum + 4))), (0, .ref (F.1 110)), (1, .ref (F.1 x)), (3, .int (zI slot))]) 2 hG dX4_allBits_35 rfl (by decide) rfl ?_
    refine z_aload_n 1 hG dX4_allBits_38 rfl rfl ?_
    refine z_getR (t := 121) hG zcl4 (zltM hL (by decide)) (zl110 hL) 16 (by decide) rfl kw693 dX4_allBits_39 ?_
    refine z_iload_n 3 hG dX4_allBits_42 rfl rfl ?_
    refine z_iald (v := I 121 slot) hG (zltM hL (by decide)) (zl121 hL) (by decide) (by omega) rfl dX4_allBits_43 ?_
    refine z_iconst (-1) hG dX4_allBits_44 ?_
    refine z_icmp_eq (tgt := 65) hG dX4_allBits_45 (by decide) (hr _ _) (by decide) (fun c45 => ?_) (fun c45 => ?_)
    · skip
      refine z_perm (lv' := [(0, .ref (F.1 110)), (1, .ref (F.1 x)), (2, .int (zI (sum + 4))), (3, .int (zI slot))]) [1, 2, 0, 3] rfl ?_
      exact k2 c32 c45
    · skip
      have q9 := hx () c32 c45
      refine z_iload_n 0 hG dX4_allBits_48 rfl rfl ?_
      refine z_bipush 8 hG dX4_allBits_49 (by decide) ?_
      refine z_aload_n 1 hG dX4_allBits_51 rfl rfl ?_
      refine z_getR (t := 117) hG zcl4 (zltM hL (by decide)) (zl110 hL) 9 (by decide) rfl kw686 dX4_allBits_52 ?_
      refine z_aload_n 1 hG dX4_allBits_55 rfl rfl ?_
      refine z_getR (t := 121) hG zcl4 (zltM hL (by decide)) (zl110 hL) 16 (by decide) rfl kw693 dX4_allBits_56 ?_
      refine z_iload_n 3 hG dX4_allBits_59 rfl rfl ?_
      refine z_iald (v := I 121 slot) hG (zltM hL (by decide)) (zl121 hL) (by decide) (by omega) rfl dX4_allBits_60 ?_
      refine z_iald (v := I 117 (I 121 slot)) hG (zltM hL (by decide)) (zl117 hL) (by decide) (by omega) rfl dX4_allBits_61 ?_
      refine z_imul hG dX4_allBits_62 ?_
      refine z_iadd hG dX4_allBits_63 ?_
      refine z_istore_n (lv' := [(2, .int (zI ((sum + 4) + (8 * (I 117 (I 121 slot)))))), (0, .ref (F.1 110)), (1, .ref (F.1 x)), (3, .int (zI slot))]) hG dX4_allBits_64 rfl (by decide) rfl ?_
      refine z_perm (lv' := [(0, .ref (F.1 110)), (1, .ref (F.1 x)), (2, .int (zI ((sum + 4) + (8 * (I 117 (I 121 slot)))))), (3, .int (zI slot))]) [1, 2, 0, 3] rfl ?_
      exact k3 c32 c45

set_option maxRecDepth 100000 in
set_option maxHeartbeats 4000000 in
theorem s_X4_allBits_65 {G : zCx} {F : zFr} {I : zStore} {post : Option Value → zStore → Prop}{x : Nat} {sum slot : Int} (hG : zOK G "LineLearnerModel" cX4_allBits 6) (hR : zRoom G rm_X4_allBits) (hE : zRetI G F cX4_allBits 1 4 post) (hL : zLayM F) (hr : zRg I) (hx_x : 129 ≤ x) (hl_x : x < F.2.1) (hy_x : F.2.2 x = .inr (.inl (0, 4))) (h1 : 0 ≤ slot ∧ slot < 40) (hn : 0 ≤ I 110 3 ∧ I 110 3 ≤ 12) (hk : 0 ≤ I 119 0 ∧ I 119 0 < 4096)
    (k1 : (¬ (zmu (I 122) 0 slot (I 110 3).toNat < zbc (I 119 0))) → zW G F 1 4 I [(0, .ref (F.1 110)), (1, .ref (F.1 x)), (2, .int (zI sum)), (3, .int (zI slot))] [] 86)
    (k2 : (zmu (I 122) 0 slot (I 110 3).toNat < zbc (I 119 0)) → zW G F 1 4 I [(0, .ref (F.1 110)), (1, .ref (F.1 x)), (2, .int (zI (sum + (zbc (I 119 0))))), (3, .int (zI slot))] [] 86) :
    zW G F 1 4 I [(0, .ref (F.1 110)), (1, .ref (F.1 x)), (2, .int (zI sum)), (3, .int (zI slot))] [] 65 := by
  refine z_aload_n 0 hG dX4_allBits_65 rfl rfl ?_
  refine z_iconst 0 hG dX4_allBits_66 ?_
  refine z_iload_n 3 hG dX4_allBits_67 rfl rfl ?_
  refine z_callV [.int (zI 0), .int (zI slot)] hG hR (c_X4_isFree hL hr (by first | assumption | omega | ((try simp only [zup_k, zup_i, zup_at, ne_eq, not_false_eq_true, Nat.reduceEqDiff]); simp only [zup_at]; omega)) (by first | assumption | omega | ((try simp only [zup_k, zup_i, zup_at, ne_eq, not_false_eq_true, Nat.reduceEqDiff]); simp only [zup_at]; omega)) (by first | assumption | omega | ((try simp only [zup_k, zup_i, zup_at, ne_eq, not_false_eq_true, Nat.reduceEqDiff]); simp only [zup_at]; omega)) (by first | assumption | omega | ((try simp only [zup_k, zup_i, zup_at, ne_eq, not_false_eq_true, Nat.reduceEqDiff]); simp only [zup_at]; omega))) hd_X4_isFree kw836 kw838 kp29 rfl (zltM hL (by decide)) (zl110 hL) (by decide) (by decide) (by decide) (by decide) rfl rfl (Nat.le_of_ble_eq_true rfl) dX4_allBits_68 (fun r I' hp => ?_)
  rw [hp.1, hp.2]
  show zW G F 1 4 I [(0, .ref (F.1 110)), (1, .ref (F.1 x)), (2, .int (zI sum)), (3, .int (zI slot))] [.int (zI (if zmu (I 122) 0 slot (I 110 3).toNat < zbc (I 119 0) then 1 else 0))] 71
  refine z_if_eq (tgt := 86) hG dX4_allBits_71 (by decide) (by omega) (fun c71 => ?_) (fun c71 => ?_)
  · skip
    have c71b := zif_n c71
    exact k1 c71b
  · skip
    have c71b := zif_y c71
    refine z_iload_n 2 hG dX4_allBits_74 rfl rfl ?_
    refine z_aload_n 0 hG dX4_allBits_75 rfl rfl ?_
    refine z_getR (t := 119) hG zcl4 (zltM hL (by decide)) (zl110 hL) 14 (by decide) rfl kw691 dX4_allBits_76 ?_
    refine z_iconst 0 hG dX4_allBits_79 ?_
    refine z_iald (v := I 119 0) hG (zltM hL (by decide)) (zl119 hL) (by decide) (by decide) rfl dX4_allBits_80 ?_
    refine z_callS [.int (zI (I 119 0))] hG hR (c_J_bc hr (by first | assumption | omega | ((try simp only [zup_k, zup_i, zup_at, ne_eq, not_false_eq_true, Nat.reduceEqDiff]); simp only [zup_at]; omega))) hd_J_bc kw848 kw849 (by decide) (by decide) (by decide) (by decide) rfl rfl (Nat.le_of_ble_eq_true rfl) dX4_allBits_81 (fun r I' hp => ?_)
    rw [hp.1, hp.2]
    have ha81_0 : 0 ≤ (zbc (I 119 0)) ∧ (zbc (I 119 0)) ≤ 12 := zbc_bd _
    show zW G F 1 4 I [(0, .ref (F.1 110)), (1, .ref (F.1 x)), (2, .int (zI sum)), (3, .int (zI slot))] [.int (zI (zbc (I 119 0))), .int (zI sum)] 84
    refine z_iadd hG dX4_allBits_84 ?_
    refine z_istore_n (lv' := [(2, .int (zI (sum + (zbc (I 119 0))))), (0, .ref (F.1 110)), (1, .ref (F.1 x)), (3, .int (zI slot))]) hG dX4_allBits_85 rfl (by decide) rfl ?_
    refine z_perm (lv' := [(0, .ref (F.1 110)), (1, .ref (F.1 x)), (2, .int (zI (sum + (zbc (I 119 0))))), (3, .int (zI slot))]) [1, 2, 0, 3] rfl ?_
    exact k2 c71b

set_option maxRecDepth 100000 in
set_option maxHeartbeats 4000000 in
theorem s_X4_allBits_86 {G : zCx} {F : zFr} {I : zStore} {post : Option Value → zStore → Prop}{x : Nat} {sum slot : Int} (hG : zOK G "LineLearnerModel" cX4_allBits 6) (hR : zRoom G rm_X4_allBits) (hE : zRetI G F cX4_allBits 1 4 post) (hL : zLayM F) (hr : zRg I) (hx_x : 129 ≤ x) (hl_x : x < F.2.1) (hy_x : F.2.2 x = .inr (.inl (0, 4)))
    (k1 : zW G F 1 4 I [(0, .ref (F.1 110)), (1, .ref (F.1 x)), (2, .int (zI sum)), (3, .int (zI slot)), (4, .int (zI 0))] [] 89) :
    zW G F 1 4 I [(0, .ref (F.1 110)), (1, .ref (F.1 x)), (2, .int (zI sum)), (3, .int (zI slot))] [] 86 := by
  refine z_iconst 0 hG dX4_allBits_86 ?_
  refine z_istore (lv' := [(4, .int (zI 0)), (0, .ref (F.1 110)), (1, .ref (F.1 x)), (2, .int (zI sum)), (3, .int (zI slot))]) hG dX4_allBits_87 (by decide) rfl ?_
  refine z_perm (lv' := [(0, .ref (F.1 110)), (1, .ref (F.1 x)), (2, .int (zI sum)), (3, .int (zI slot)), (4, .int (zI 0))]) [1, 2, 3, 4, 0] rfl ?_
  exact k1

set_option maxRecDepth 100000 in
set_option maxHeartbeats 4000000 in
theorem s_X4_allBits_89 {G : zCx} {F : zFr} {I : zStore} {post : Option Value → zStore → Prop}{x : Nat} {sum slot line : Int} (hG : zOK G "LineLearnerModel" cX4_allBits 6) (hR : zRoom G rm_X4_allBits) (hE : zRetI G F cX4_allBits 1 4 post) (hL : zLayM F) (hr : zRg I) (hx_x : 129 ≤ x) (hl_x : x < F.2.1) (hy_x : F.2.2 x = .inr (.inl (0, 4))) (h1 : 0 ≤ slot ∧ slot < 40) (hn : 0 ≤ I 110 3 ∧ I 110 3 ≤ 12) (h4 : 0 ≤ line ∧ line ≤ 12) (h5 : 0 ≤ I 120 slot ∧ I 120 slot < 4) (hu : ∀ _u : Unit, line < I 110 3 → I 122 (12 * (40 * 0 + slot) + line) ≠ (-1) → 0 ≤ I 122 (12 * (40 * 0 + slot) + line) ∧ I 122 (12 * (40 * 0 + slot) + line) < 30)
    (k1 : ((I 110 3) ≤ line) → zW G F 1 4 I [(0, .ref (F.1 110)), (1, .ref (F.1 x)), (2, .int (zI sum)), (3, .int (zI (slot + 1)))] [] 25)
    (k2 : (line < (I 110 3)) → ((I 121 slot) ≠ (-1)) → zW G F 1 4 I [(0, .ref (F.1 110)), (1, .ref (F.1 x)), (2, .int (zI sum)), (3, .int (zI (slot + 1)))] [] 25)
    (k3 : (line < (I 110 3)) → ((I 121 slot) = (-1)) → ((I 122 (12 * (40 * 0 + slot) + line)) = (-1)) → zW G F 1 4 I [(0, .ref (F.1 110)), (1, .ref (F.1 x)), (2, .int (zI sum)), (3, .int (zI slot)), (4, .int (zI (line + 1)))] [] 89)
    (k4 : (line < (I 110 3)) → ((I 121 slot) = (-1)) → ((I 122 (12 * (40 * 0 + slot) + line)) ≠ (-1)) → zW G F 1 4 I [(0, .ref (F.1 110)), (1, .ref (F.1 x)), (2, .int (zI (sum + (1 + ((I x (I 120 slot)) * (I 117 ((30 * line) + (I 122 (12 * (40 * 0 + slot) + line))))))))), (3, .int (zI slot)), (4, .int (zI (line + 1)))] [] 89) :
    zW G F 1 4 I [(0, .ref (F.1 110)), (1, .ref (F.1 x)), (2, .int (zI sum)), (3, .int (zI slot)), (4, .int (zI line))] [] 89 := by
  refine z_iload 4 hG dX4_allBits_89 rfl ?_
  refine z_aload_n 0 hG dX4_allBits_91 rfl rfl ?_
  refine z_getI (v := I 110 3) hG zcl4 (zltM hL (by decide)) (zl110 hL) 3 (by decide) rfl rfl rfl kw680 dX4_allBits_92 ?_
  refine z_icmp_ge (tgt := 157) hG dX4_allBits_95 (by decide) (by omega) (hr _ _) (fun c95 => ?_) (fun c95 => ?_)
  · skip
    refine z_iinc (lv' := [(3, .int (zI (slot + 1))), (0, .ref (F.1 110)), (1, .ref (F.1 x)), (2, .int (zI sum)), (4, .int (zI line))]) 3 hG dX4_allBits_157 rfl (by decide) rfl ?_
    refine z_goto (tgt := 25) hG dX4_allBits_160 (by decide) ?_
    refine z_perm (lv' := [(0, .ref (F.1 110)), (1, .ref (F.1 x)), (2, .int (zI sum)), (3, .int (zI (slot + 1)))]) [1, 2, 3, 0] rfl ?_
    exact k1 c95
  · skip
    refine z_aload_n 0 hG dX4_allBits_98 rfl rfl ?_
    refine z_getR (t := 121) hG zcl4 (zltM hL (by decide)) (zl110 hL) 16 (by decide) rfl kw693 dX4_allBits_99 ?_
    refine z_iload_n 3 hG dX4_allBits_102 rfl rfl ?_
    refine z_iald (v := I 121 slot) hG (zltM hL (by decide)) (zl121 hL) (by decide) (by omega) rfl dX4_allBits_103 ?_
    refine z_iconst (-1) hG dX4_allBits_104 ?_
    refine z_icmp_ne (tgt := 157) hG dX4_allBits_105 (by decide) (hr _ _) (by decide) (fun c105 => ?_) (fun c105 => ?_)
    · skip
      refine z_iinc (lv' := [(3, .int (zI (slot + 1))), (0, .ref (F.1 110)), (1, .ref (F.1 x)), (2, .int (zI sum)), (4, .int (zI line))]) 3 hG dX4_allBits_157 rfl (by decide) rfl ?_
      refine z_goto (tgt := 25) hG dX4_allBits_160 (by decide) ?_
      refine z_perm (lv' := [(0, .ref (F.1 110)), (1, .ref (F.1 x)), (2, .int (zI sum)), (3, .int (zI (slot + 1)))]) [1, 2, 3, 0] rfl ?_
      exact k2 c95 c105
    · skip
      refine z_aload_n 0 hG dX4_allBits_108 rfl rfl ?_
      refine z_iconst 0 hG dX4_allBits_109 ?_
      refine z_iload_n 3 hG dX4_allBits_110 rfl rfl ?_
      refine z_iload 4 hG dX4_allBits_111 rfl ?_
      refine z_callV [.int (zI 0), .int (zI slot), .int (zI line)] hG hR (c_X4_tokenOf hL hr (by first | assumption | omega | ((try simp only [zup_k, zup_i, zup_at, ne_eq, not_false_eq_true, Nat.reduceEqDiff]); simp only [zup_at]; omega)) (by first | assumption | omega | ((try simp only [zup_k, zup_i, zup_at, ne_eq, not_false_eq_true, Nat.reduceEqDiff]); simp only [zup_at]; omega)) (by first | assumption | omega | ((try simp only [zup_k, zup_i, zup_at, ne_eq, not_false_eq_true, Nat.reduceEqDiff]); simp only [zup_at]; omega))) hd_X4_tokenOf kw844 kw846 kp31 rfl (zltM hL (by decide)) (zl110 hL) (by decide) (by decide) (by decide) (by decide) rfl rfl (Nat.le_of_ble_eq_true rfl) dX4_allBits_113 (fun r I' hp => ?_)
      rw [hp.1, hp.2]
      show zW G F 1 4 I [(0, .ref (F.1 110)), (1, .ref (F.1 x)), (2, .int (zI sum)), (3, .int (zI slot)), (4, .int (zI line))] [.int (zI (I 122 (12 * (40 * 0 + slot) + line)))] 116
      refine z_istore (lv' := [(5, .int (zI (I 122 (12 * (40 * 0 + slot) + line)))), (0, .ref (F.1 110)), (1, .ref (F.1 x)), (2, .int (zI sum)), (3, .int (zI slot)), (4, .int (zI line))]) hG dX4_allBits_116 (by decide) rfl ?_
      refine z_iload 0 hG dX4_allBits_118 rfl ?_
      refine z_iconst (-1) hG dX4_allBits_120 ?_
      refine z_icmp_eq (tgt := 151) hG dX4_allBits_121 (by decide) (hr _ _) (by decide) (fun c121 => ?_) (fun c121 => ?_)
      · skip
        refine z_iinc (lv' := [(4, .int (zI (line + 1))), (5, .int (zI (I 122 (12 * (40 * 0 + slot) + line)))), (0, .ref (F.1 110)), (1, .ref (F.1 x)), (2, .int (zI sum)), (3, .int (zI slot))]) 5 hG dX4_allBits_151 rfl (by decide) rfl ?_
        refine z_goto (tgt := 89) hG dX4_allBits_154 (by decide) ?_
        refine z_perm (lv' := [(0, .ref (F.1 110)), (1, .ref (F.1 x)), (2, .int (zI sum)), (3, .int (zI slot)), (4, .int (zI (line + 1)))]) [2, 3, 4, 5, 0] rfl ?_
        exact k3 c95 c105 c121
      · skip
        have q9 := hu () c95 c121
        refine z_iload_n 3 hG dX4_allBits_124 rfl rfl ?_
        refine z_iconst 1 hG dX4_allBits_125 ?_
        refine z_aload_n 2 hG dX4_allBits_126 rfl rfl ?_
        refine z_aload_n 1 hG dX4_allBits_127 rfl rfl ?_
        refine z_getR (t := 120) hG zcl4 (zltM hL (by decide)) (zl110 hL) 15 (by decide) rfl kw692 dX4_allBits_128 ?_
        refine z_iload_n 4 hG dX4_allBits_131 rfl rfl ?_
        refine z_iald (v := I 120 slot) hG (zltM hL (by decide)) (zl120 hL) (by decide) (by omega) rfl dX4_allBits_132 ?_
        refine z_iald (v := I x (I 120 slot)) hG hl_x hy_x (by decide) (by omega) rfl dX4_allBits_133 ?_
        refine z_aload_n 1 hG dX4_allBits_134 rfl rfl ?_
        refine z_getR (t := 117) hG zcl4 (zltM hL (by decide)) (zl110 hL) 9 (by decide) rfl kw686 dX4_allBits_135 ?_
        refine z_bipush 30 hG dX4_allBits_138 (by decide) ?_
        refine z_iload 5 hG dX4_allBits_140 rfl ?_
        refine z_imul hG dX4_allBits_142 ?_
        refine z_iload 0 hG dX4_allBits_143 rfl ?_
        refine z_iadd hG dX4_allBits_145 ?_
        refine z_iald (v := I 117 ((30 * line) + (I 122 (12 * (40 * 0 + slot) + line)))) hG (zltM hL (by decide)) (zl117 hL) (by decide) (by omega) rfl dX4_allBits_146 ?_
        refine z_imul hG dX4_allBits_147 ?_
        refine z_iadd hG dX4_allBits_148 ?_
        refine z_iadd hG dX4_allBits_149 ?_
        refine z_istore_n (lv' := [(2, .int (zI (sum + (1 + ((I x (I 120 slot)) * (I 117 ((30 * line) + (I 122 (12 * (40 * 0 + slot) + line))))))))), (5, .int (zI (I 122 (12 * (40 * 0 + slot) + line)))), (0, .ref (F.1 110)), (1, .ref (F.1 x)), (3, .int (zI slot)), (4, .int (zI line))]) hG dX4_allBits_150 rfl (by decide) rfl ?_
        refine z_iinc (lv' := [(4, .int (zI (line + 1))), (2, .int (zI (sum + (1 + ((I x (I 120 slot)) * (I 117 ((30 * line) + (I 122 (12 * (40 * 0 + slot) + line))))))))), (5, .int (zI (I 122 (12 * (40 * 0 + slot) + line)))), (0, .ref (F.1 110)), (1, .ref (F.1 x)), (3, .int (zI slot))]) 5 hG dX4_allBits_151 rfl (by decide) rfl ?_
        refine z_goto (tgt := 89) hG dX4_allBits_154 (by decide) ?_
        refine z_perm (lv' := [(0, .ref (F.1 110)), (1, .ref (F.1 x)), (2, .int (zI (sum + (1 + ((I x (I 120 slot)) * (I 117 ((30 * line) + (I 122 (12 * (40 * 0 + slot) + line))))))))), (3, .int (zI slot)), (4, .int (zI (line + 1)))]) [3, 4, 1, 5, 0] rfl ?_
        exact k4 c95 c105 c121

abbrev rm_X4_bits : Room := { frames := 5, cells := 1, slots := 4, locals := 115 }
set_option maxRecDepth 100000 in
set_option maxHeartbeats 4000000 in
theorem s_X4_bits_0 {G : zCx} {F : zFr} {I : zStore} {post : Option Value → zStore → Prop} {v6 : Int} (hG : zOK G "LineLearnerModel" cX4_bits 1) (hR : zRoom G rm_X4_bits) (hE : zRetI G F cX4_bits 1 4 post) (hL : zLayM F) (hr : zRg I)
    (kc6 : ∀ (l : Launch) (D : va_G) (cs : Nat → ClassId), l.stackTraces = false → zMt l yX4_allBits cX4_allBits 6 (some .int) rm_X4_allBits D cs F (zup I 110 0 0) [.ref (F.1 110)] (fun r I' => r = some (.int (zI v6)) ∧ I' = (zup I 110 0 0)))
    (hv6 : -2147483648 ≤ v6 ∧ v6 < 2147483648)
    (k3 : post (some (.int (zI v6))) (zup I 110 0 0)) :
    zW G F 0 0 I [(0, .ref (F.1 110))] [] 0 := by
  refine z_aload_n 0 hG dX4_bits_0 rfl rfl ?_
  refine z_iconst 0 hG dX4_bits_1 ?_
  refine z_putI hG zcl4 (zltM hL (by decide)) (zl110 hL) 0 (by decide) (ki := 0) rfl rfl kw677 rfl rfl dX4_bits_2 ?_
  refine z_aload_n 0 hG dX4_bits_5 rfl rfl ?_
  refine z_callV [] hG hR (kc6 ) hd_X4_allBits kw946 kw948 kp39 rfl (zltM hL (by decide)) (zl110 hL) (by decide) (by decide) (by decide) (by decide) rfl rfl (Nat.le_of_ble_eq_true rfl) dX4_bits_6 (fun r I' hp => ?_)
  rw [hp.1, hp.2]
  show zW G F 1 4 (zup I 110 0 0) [(0, .ref (F.1 110))] [.int (zI v6)] 9
  exact hE _ _ _ _ dX4_bits_9 (k3)

