abbrev rm_X0_isMatch : Room := { frames := 1, cells := 0, slots := 0, locals := 24 }
set_option maxRecDepth 100000 in
set_option maxHeartbeats 4000000 in
theorem s_X0_isMatch_0 {G : zCx} {F : zFr} {I : zStore} {post : Option Value → zStore → Prop}{b : Nat} {line : Int} (hG : zOK G "LineLearner$Aligner" cX0_isMatch 8) (hR : zRoom G rm_X0_isMatch) (hE : zRetZ G F cX0_isMatch 0 0 post) (hL : zLay F) (hr : zRg I) (hf_b : zFm F b) (h1 : 0 ≤ line ∧ line < 12)
    (k1 : zW G F 0 0 I [(0, .ref (F.1 10)), (1, .ref (F.1 b)), (2, .int (zI line)), (3, .int (zI (I 4 line))), (4, .int (zI 0))] [] 13) :
    zW G F 0 0 I [(0, .ref (F.1 10)), (1, .ref (F.1 b)), (2, .int (zI line))] [] 0 := by
  have hfb_b := hf_b.1
  refine z_aload_n 0 hG dX0_isMatch_0 rfl rfl ?_
  refine z_getR (t := 2) hG zcl0 (zlt hL (by decide)) (zl10 hL) 0 (by decide) rfl kw76 dX0_isMatch_1 ?_
  refine z_getRN (t := 4) hG zcl2 (zlt hL (by decide)) (zl2 hL) 2 (by decide) rfl kw33 dX0_isMatch_4 ?_
  refine z_iload_n 2 hG dX0_isMatch_7 rfl rfl ?_
  refine z_iald (v := I 4 line) hG (zlt hL (by decide)) (zl4 hL) (by decide) (by omega) rfl dX0_isMatch_8 ?_
  refine z_istore_n (lv' := [(3, .int (zI (I 4 line))), (0, .ref (F.1 10)), (1, .ref (F.1 b)), (2, .int (zI line))]) hG dX0_isMatch_9 rfl (by decide) rfl ?_
  refine z_iconst 0 hG dX0_isMatch_10 ?_
  refine z_istore (lv' := [(4, .int (zI 0)), (3, .int (zI (I 4 line))), (0, .ref (F.1 10)), (1, .ref (F.1 b)), (2, .int (zI line))]) hG dX0_isMatch_11 (by decide) rfl ?_
  refine z_perm (lv' := [(0, .ref (F.1 10)), (1, .ref (F.1 b)), (2, .int (zI line)), (3, .int (zI (I 4 line))), (4, .int (zI 0))]) [2, 3, 4, 1, 0] rfl ?_
  exact k1

set_option maxRecDepth 100000 in
set_option maxHeartbeats 4000000 in
theorem s_X0_isMatch_13 {G : zCx} {F : zFr} {I : zStore} {post : Option Value → zStore → Prop}{b : Nat} {line m t : Int} (hG : zOK G "LineLearner$Aligner" cX0_isMatch 8) (hR : zRoom G rm_X0_isMatch) (hE : zRetZ G F cX0_isMatch 0 0 post) (hL : zLay F) (hr : zRg I) (hf_b : zFm F b) (h3 : 0 ≤ t ∧ t ≤ m + 1 ∧ m ≤ 30)
    (k1 : (m < t) → zW G F 0 0 I [(0, .ref (F.1 10)), (1, .ref (F.1 b)), (2, .int (zI line)), (3, .int (zI m)), (4, .int (zI 0))] [] 45)
    (k2 : (t ≤ m) → (t ≠ 0) → zW G F 0 0 (zup I 14 t 0) [(0, .ref (F.1 10)), (1, .ref (F.1 b)), (2, .int (zI line)), (3, .int (zI m)), (4, .int (zI (t + 1)))] [] 13)
    (k3 : (t ≤ m) → (t = 0) → zW G F 0 0 (zup I 14 t 1) [(0, .ref (F.1 10)), (1, .ref (F.1 b)), (2, .int (zI line)), (3, .int (zI m)), (4, .int (zI (t + 1)))] [] 13) :
    zW G F 0 0 I [(0, .ref (F.1 10)), (1, .ref (F.1 b)), (2, .int (zI line)), (3, .int (zI m)), (4, .int (zI t))] [] 13 := by
  have hfb_b := hf_b.1
  refine z_iload 4 hG dX0_isMatch_13 rfl ?_
  refine z_iload_n 3 hG dX0_isMatch_15 rfl rfl ?_
  refine z_icmp_gt (tgt := 42) hG dX0_isMatch_16 (by decide) (by omega) (by omega) (fun c16 => ?_) (fun c16 => ?_)
  · skip
    refine z_iconst 0 hG dX0_isMatch_42 ?_
    refine z_istore (lv' := [(4, .int (zI 0)), (0, .ref (F.1 10)), (1, .ref (F.1 b)), (2, .int (zI line)), (3, .int (zI m))]) hG dX0_isMatch_43 (by decide) rfl ?_
    refine z_perm (lv' := [(0, .ref (F.1 10)), (1, .ref (F.1 b)), (2, .int (zI line)), (3, .int (zI m)), (4, .int (zI 0))]) [1, 2, 3, 4, 0] rfl ?_
    exact k1 c16
  · skip
    refine z_aload_n 0 hG dX0_isMatch_19 rfl rfl ?_
    refine z_getR (t := 14) hG zcl0 (zlt hL (by decide)) (zl10 hL) 9 (by decide) rfl kw89 dX0_isMatch_20 ?_
    refine z_iload 4 hG dX0_isMatch_23 rfl ?_
    refine z_iload 4 hG dX0_isMatch_25 rfl ?_
    refine z_if_ne (tgt := 34) hG dX0_isMatch_27 (by decide) (by omega) (fun c27 => ?_) (fun c27 => ?_)
    · skip
      refine z_iconst 0 hG dX0_isMatch_34 ?_
      refine z_zast hG (zlt hL (by decide)) (zl14 hL) (by decide) (by omega) (by first | decide | omega) dX0_isMatch_35 ?_
      refine z_iinc (lv' := [(4, .int (zI (t + 1))), (0, .ref (F.1 10)), (1, .ref (F.1 b)), (2, .int (zI line)), (3, .int (zI m))]) 4 hG dX0_isMatch_36 rfl (by decide) rfl ?_
      refine z_goto (tgt := 13) hG dX0_isMatch_39 (by decide) ?_
      refine z_perm (lv' := [(0, .ref (F.1 10)), (1, .ref (F.1 b)), (2, .int (zI line)), (3, .int (zI m)), (4, .int (zI (t + 1)))]) [1, 2, 3, 4, 0] rfl ?_
      exact k2 c16 c27
    · skip
      refine z_iconst 1 hG dX0_isMatch_30 ?_
      refine z_goto (tgt := 35) hG dX0_isMatch_31 (by decide) ?_
      refine z_zast hG (zlt hL (by decide)) (zl14 hL) (by decide) (by omega) (by first | decide | omega) dX0_isMatch_35 ?_
      refine z_iinc (lv' := [(4, .int (zI (t + 1))), (0, .ref (F.1 10)), (1, .ref (F.1 b)), (2, .int (zI line)), (3, .int (zI m))]) 4 hG dX0_isMatch_36 rfl (by decide) rfl ?_
      refine z_goto (tgt := 13) hG dX0_isMatch_39 (by decide) ?_
      refine z_perm (lv' := [(0, .ref (F.1 10)), (1, .ref (F.1 b)), (2, .int (zI line)), (3, .int (zI m)), (4, .int (zI (t + 1)))]) [1, 2, 3, 4, 0] rfl ?_
      exact k3 c16 c27

set_option maxRecDepth 100000 in
set_option maxHeartbeats 4000000 in
theorem s_X0_isMatch_45 {G : zCx} {F : zFr} {I : zStore} {post : Option Value → zStore → Prop}{b : Nat} {line m t : Int} (hG : zOK G "LineLearner$Aligner" cX0_isMatch 8) (hR : zRoom G rm_X0_isMatch) (hE : zRetZ G F cX0_isMatch 0 0 post) (hL : zLay F) (hr : zRg I) (hf_b : zFm F b) (h3 : 0 ≤ t ∧ t ≤ I b 0 ∧ I b 0 ≤ 40) (h4 : 0 ≤ m ∧ m ≤ 30) (h5 : 0 ≤ I 14 m ∧ I 14 m ≤ 1) (g1 : ∀ _u : Unit, t < I b 0 → 0 ≤ I (b + 1) t ∧ I (b + 1) t < 40)
    (k1 : ((I b 0) ≤ t) → post (some (.int (zI (I 14 m)))) I)
    (k2 : (t < (I b 0)) → zW G F 0 0 I [(0, .ref (F.1 10)), (1, .ref (F.1 b)), (2, .int (zI line)), (3, .int (zI m)), (4, .int (zI t)), (5, .int (zI (I (b + 1) t))), (6, .int (zI (if I (b + 6) (I (b + 1) t) < I b 1 then 1 else 0))), (7, .int (zI m))] [] 74) :
    zW G F 0 0 I [(0, .ref (F.1 10)), (1, .ref (F.1 b)), (2, .int (zI line)), (3, .int (zI m)), (4, .int (zI t))] [] 45 := by
  have hfb_b := hf_b.1
  refine z_iload 4 hG dX0_isMatch_45 rfl ?_
  refine z_aload_n 1 hG dX0_isMatch_47 rfl rfl ?_
  refine z_getIN (v := I b 0) hG zcl1 (zfN0 hf_b) (zf0 hf_b) 0 (by decide) rfl rfl rfl kw119 dX0_isMatch_48 ?_
  refine z_icmp_ge (tgt := 173) hG dX0_isMatch_51 (by decide) (by omega) (hr _ _) (fun c51 => ?_) (fun c51 => ?_)
  · skip
    refine z_aload_n 0 hG dX0_isMatch_173 rfl rfl ?_
    refine z_getR (t := 14) hG zcl0 (zlt hL (by decide)) (zl10 hL) 9 (by decide) rfl kw89 dX0_isMatch_174 ?_
    refine z_iload_n 3 hG dX0_isMatch_177 rfl rfl ?_
    refine z_zald (v := I 14 m) hG (zlt hL (by decide)) (zl14 hL) (by decide) (by omega) rfl dX0_isMatch_178 ?_
    exact hE _ _ _ _ dX0_isMatch_179 (by first | decide | omega) (k1 c51)
  · skip
    have q1 := g1 () c51
    refine z_aload_n 1 hG dX0_isMatch_54 rfl rfl ?_
    refine z_getRN (t := (b + 1)) hG zcl1 (zfN0 hf_b) (zf0 hf_b) 2 (by decide) rfl kw125 dX0_isMatch_55 ?_
    refine z_iload 4 hG dX0_isMatch_58 rfl ?_
    refine z_iald (v := I (b + 1) t) hG (zfN1 hf_b) (zf1 hf_b) (by decide) (by omega) rfl dX0_isMatch_60 ?_
    refine z_istore (lv' := [(5, .int (zI (I (b + 1) t))), (0, .ref (F.1 10)), (1, .ref (F.1 b)), (2, .int (zI line)), (3, .int (zI m)), (4, .int (zI t))]) hG dX0_isMatch_61 (by decide) rfl ?_
    refine z_aload_n 2 hG dX0_isMatch_63 rfl rfl ?_
    refine z_iload 0 hG dX0_isMatch_64 rfl ?_
    refine z_callV [.int (zI (I (b + 1) t))] hG hR (c_X1_canMiss hr hf_b (by omega)) hd_X1_canMiss kw221 kw222 kw223 rfl (zfN0 hf_b) (zf0 hf_b) (by decide) (by decide) (by decide) (by decide) rfl rfl (Nat.le_of_ble_eq_true rfl) dX0_isMatch_66 (fun r I' hp => ?_)
    rw [hp.1, hp.2]
    show zW G F 0 0 I [(5, .int (zI (I (b + 1) t))), (0, .ref (F.1 10)), (1, .ref (F.1 b)), (2, .int (zI line)), (3, .int (zI m)), (4, .int (zI t))] [.int (zI (if I (b + 6) (I (b + 1) t) < I b 1 then 1 else 0))] 69
    refine z_istore (lv' := [(6, .int (zI (if I (b + 6) (I (b + 1) t) < I b 1 then 1 else 0))), (5, .int (zI (I (b + 1) t))), (0, .ref (F.1 10)), (1, .ref (F.1 b)), (2, .int (zI line)), (3, .int (zI m)), (4, .int (zI t))]) hG dX0_isMatch_69 (by decide) rfl ?_
    refine z_iload_n 5 hG dX0_isMatch_71 rfl rfl ?_
    refine z_istore (lv' := [(7, .int (zI m)), (6, .int (zI (if I (b + 6) (I (b + 1) t) < I b 1 then 1 else 0))), (5, .int (zI (I (b + 1) t))), (0, .ref (F.1 10)), (1, .ref (F.1 b)), (2, .int (zI line)), (3, .int (zI m)), (4, .int (zI t))]) hG dX0_isMatch_72 (by decide) rfl ?_
    refine z_perm (lv' := [(0, .ref (F.1 10)), (1, .ref (F.1 b)), (2, .int (zI line)), (3, .int (zI m)), (4, .int (zI t)), (5, .int (zI (I (b + 1) t))), (6, .int (zI (if I (b + 6) (I (b + 1) t) < I b 1 then 1 else 0))), (7, .int (zI m))]) [3, 4, 5, 6, 7, 2, 1, 0] rfl ?_
    exact k2 c51

set_option maxRecDepth 100000 in
set_option maxHeartbeats 4000000 in
theorem s_X0_isMatch_74 {G : zCx} {F : zFr} {I : zStore} {post : Option Value → zStore → Prop}{b : Nat} {line m slot id cm t : Int} (hG : zOK G "LineLearner$Aligner" cX0_isMatch 8) (hR : zRoom G rm_X0_isMatch) (hE : zRetZ G F cX0_isMatch 0 0 post) (hL : zLay F) (hr : zRg I) (hf_b : zFm F b) (h1 : 0 ≤ line ∧ line < 12) (h3 : 0 ≤ t ∧ t ≤ m ∧ m ≤ 30) (h4 : 0 ≤ cm ∧ cm ≤ 1) (h5 : 0 ≤ id ∧ id < 40) (h6 : 0 ≤ slot ∧ slot < 40)
    (k1 : (t ≤ 0) → (cm = 0) → zW G F 0 0 (zup I 14 0 0) [(0, .ref (F.1 10)), (1, .ref (F.1 b)), (2, .int (zI line)), (3, .int (zI m)), (4, .int (zI (slot + 1)))] [] 45)
    (k2 : (t ≤ 0) → (cm ≠ 0) → ((I 14 0) = 0) → zW G F 0 0 (zup I 14 0 0) [(0, .ref (F.1 10)), (1, .ref (F.1 b)), (2, .int (zI line)), (3, .int (zI m)), (4, .int (zI (slot + 1)))] [] 45)
    (k3 : (t ≤ 0) → (cm ≠ 0) → ((I 14 0) ≠ 0) → zW G F 0 0 (zup I 14 0 1) [(0, .ref (F.1 10)), (1, .ref (F.1 b)), (2, .int (zI line)), (3, .int (zI m)), (4, .int (zI (slot + 1)))] [] 45)
    (k4 : (0 < t) → (cm = 0) → ((I 14 (t - 1)) = 0) → zW G F 0 0 (zup I 14 t 0) [(0, .ref (F.1 10)), (1, .ref (F.1 b)), (2, .int (zI line)), (3, .int (zI m)), (4, .int (zI slot)), (5, .int (zI id)), (6, .int (zI cm)), (7, .int (zI (t + (-1))))] [] 74)
    (k5 : (0 < t) → (cm = 0) → ((I 14 (t - 1)) ≠ 0) → ((ztk I b id ((line * 30) + (t - 1))) = 0) → zW G F 0 0 (zup I 14 t 0) [(0, .ref (F.1 10)), (1, .ref (F.1 b)), (2, .int (zI line)), (3, .int (zI m)), (4, .int (zI slot)), (5, .int (zI id)), (6, .int (zI cm)), (7, .int (zI (t + (-1))))] [] 74)
    (k6 : (0 < t) → (cm = 0) → ((I 14 (t - 1)) ≠ 0) → ((ztk I b id ((line * 30) + (t - 1))) ≠ 0) → zW G F 0 0 (zup I 14 t 1) [(0, .ref (F.1 10)), (1, .ref (F.1 b)), (2, .int (zI line)), (3, .int (zI m)), (4, .int (zI slot)), (5, .int (zI id)), (6, .int (zI cm)), (7, .int (zI (t + (-1))))] [] 74)
    (k7 : (0 < t) → (cm ≠ 0) → ((I 14 t) ≠ 0) → zW G F 0 0 (zup I 14 t 1) [(0, .ref (F.1 10)), (1, .ref (F.1 b)), (2, .int (zI line)), (3, .int (zI m)), (4, .int (zI slot)), (5, .int (zI id)), (6, .int (zI cm)), (7, .int (zI (t + (-1))))] [] 74)
    (k8 : (0 < t) → (cm ≠ 0) → ((I 14 t) = 0) → ((I 14 (t - 1)) = 0) → zW G F 0 0 (zup I 14 t 0) [(0, .ref (F.1 10)), (1, .ref (F.1 b)), (2, .int (zI line)), (3, .int (zI m)), (4, .int (zI slot)), (5, .int (zI id)), (6, .int (zI cm)), (7, .int (zI (t + (-1))))] [] 74)
    (k9 : (0 < t) → (cm ≠ 0) → ((I 14 t) = 0) → ((I 14 (t - 1)) ≠ 0) → ((ztk I b id ((line * 30) + (t - 1))) = 0) → zW G F 0 0 (zup I 14 t 0) [(0, .ref (F.1 10)), (1, .ref (F.1 b)), (2, .int (zI line)), (3, .int (zI m)), (4, .int (zI slot)), (5, .int (zI id)), (6, .int (zI cm)), (7, .int (zI (t + (-1))))] [] 74)
    (k10 : (0 < t) → (cm ≠ 0) → ((I 14 t) = 0) → ((I 14 (t - 1)) ≠ 0) → ((ztk I b id ((line * 30) + (t - 1))) ≠ 0) → zW G F 0 0 (zup I 14 t 1) [(0, .ref (F.1 10)), (1, .ref (F.1 b)), (2, .int (zI line)), (3, .int (zI m)), (4, .int (zI slot)), (5, .int (zI id)), (6, .int (zI cm)), (7, .int (zI (t + (-1))))] [] 74) :
    zW G F 0 0 I [(0, .ref (F.1 10)), (1, .ref (F.1 b)), (2, .int (zI line)), (3, .int (zI m)), (4, .int (zI slot)), (5, .int (zI id)), (6, .int (zI cm)), (7, .int (zI t))] [] 74 := by
  have hfb_b := hf_b.1
  refine z_iload 7 hG dX0_isMatch_74 rfl ?_
  refine z_if_le (tgt := 142) hG dX0_isMatch_76 (by decide) (by omega) (fun c76 => ?_) (fun c76 => ?_)
  · skip
    refine z_aload_n 0 hG dX0_isMatch_142 rfl rfl ?_
    refine z_getR (t := 14) hG zcl0 (zlt hL (by decide)) (zl10 hL) 9 (by decide) rfl kw89 dX0_isMatch_143 ?_
    refine z_iconst 0 hG dX0_isMatch_146 ?_
    refine z_iload 6 hG dX0_isMatch_147 rfl ?_
    refine z_if_eq (tgt := 165) hG dX0_isMatch_149 (by decide) (by omega) (fun c149 => ?_) (fun c149 => ?_)
    · skip
      refine z_iconst 0 hG dX0_isMatch_165 ?_
      refine z_zast hG (zlt hL (by decide)) (zl14 hL) (by decide) (by decide) (by first | decide | omega) dX0_isMatch_166 ?_
      refine z_iinc (lv' := [(4, .int (zI (slot + 1))), (0, .ref (F.1 10)), (1, .ref (F.1 b)), (2, .int (zI line)), (3, .int (zI m)), (5, .int (zI id)), (6, .int (zI cm)), (7, .int (zI t))]) 4 hG dX0_isMatch_167 rfl (by decide) rfl ?_
      refine z_goto (tgt := 45) hG dX0_isMatch_170 (by decide) ?_
      refine z_perm (lv' := [(0, .ref (F.1 10)), (1, .ref (F.1 b)), (2, .int (zI line)), (3, .int (zI m)), (4, .int (zI (slot + 1)))]) [1, 2, 3, 4, 0] rfl ?_
      exact k1 c76 c149
    · skip
      refine z_aload_n 0 hG dX0_isMatch_152 rfl rfl ?_
      refine z_getR (t := 14) hG zcl0 (zlt hL (by decide)) (zl10 hL) 9 (by decide) rfl kw89 dX0_isMatch_153 ?_
      refine z_iconst 0 hG dX0_isMatch_156 ?_
      refine z_zald (v := I 14 0) hG (zlt hL (by decide)) (zl14 hL) (by decide) (by decide) rfl dX0_isMatch_157 ?_
      refine z_if_eq (tgt := 165) hG dX0_isMatch_158 (by decide) (hr _ _) (fun c158 => ?_) (fun c158 => ?_)
      · skip
        refine z_iconst 0 hG dX0_isMatch_165 ?_
        refine z_zast hG (zlt hL (by decide)) (zl14 hL) (by decide) (by decide) (by first | decide | omega) dX0_isMatch_166 ?_
        refine z_iinc (lv' := [(4, .int (zI (slot + 1))), (0, .ref (F.1 10)), (1, .ref (F.1 b)), (2, .int (zI line)), (3, .int (zI m)), (5, .int (zI id)), (6, .int (zI cm)), (7, .int (zI t))]) 4 hG dX0_isMatch_167 rfl (by decide) rfl ?_
        refine z_goto (tgt := 45) hG dX0_isMatch_170 (by decide) ?_
        refine z_perm (lv' := [(0, .ref (F.1 10)), (1, .ref (F.1 b)), (2, .int (zI line)), (3, .int (zI m)), (4, .int (zI (slot + 1)))]) [1, 2, 3, 4, 0] rfl ?_
        exact k2 c76 c149 c158
      · skip
        refine z_iconst 1 hG dX0_isMatch_161 ?_
        refine z_goto (tgt := 166) hG dX0_isMatch_162 (by decide) ?_
        refine z_zast hG (zlt hL (by decide)) (zl14 hL) (by decide) (by decide) (by first | decide | omega) dX0_isMatch_166 ?_
        refine z_iinc (lv' := [(4, .int (zI (slot + 1))), (0, .ref (F.1 10)), (1, .ref (F.1 b)), (2, .int (zI line)), (3, .int (zI m)), (5, .int (zI id)), (6, .int (zI cm)), (7, .int (zI t))]) 4 hG dX0_isMatch_167 rfl (by decide) rfl ?_
        refine z_goto (tgt := 45) hG dX0_isMatch_170 (by decide) ?_
        refine z_perm (lv' := [(0, .ref (F.1 10)), (1, .ref (F.1 b)), (2, .int (zI line)), (3, .int (zI m)), (4, .int (zI (slot + 1)))]) [1, 2, 3, 4, 0] rfl ?_
        exact k3 c76 c149 c158
  · skip
    refine z_aload_n 0 hG dX0_isMatch_79 rfl rfl ?_
    refine z_getR (t := 14) hG zcl0 (zlt hL (by decide)) (zl10 hL) 9 (by decide) rfl kw89 dX0_isMatch_80 ?_
    refine z_iload 7 hG dX0_isMatch_83 rfl ?_
    refine z_iload 6 hG dX0_isMatch_85 rfl ?_
    refine z_if_eq (tgt := 100) hG dX0_isMatch_87 (by decide) (by omega) (fun c87 => ?_) (fun c87 => ?_)
    · skip
      refine z_aload_n 0 hG dX0_isMatch_100 rfl rfl ?_
      refine z_getR (t := 14) hG zcl0 (zlt hL (by decide)) (zl10 hL) 9 (by decide) rfl kw89 dX0_isMatch_101 ?_
      refine z_iload 7 hG dX0_isMatch_104 rfl ?_
      refine z_iconst 1 hG dX0_isMatch_106 ?_
      refine z_isub hG dX0_isMatch_107 ?_
      refine z_zald (v := I 14 (t - 1)) hG (zlt hL (by decide)) (zl14 hL) (by decide) (by omega) rfl dX0_isMatch_108 ?_
      refine z_if_eq (tgt := 134) hG dX0_isMatch_109 (by decide) (hr _ _) (fun c109 => ?_) (fun c109 => ?_)
      · skip
        refine z_iconst 0 hG dX0_isMatch_134 ?_
        refine z_zast hG (zlt hL (by decide)) (zl14 hL) (by decide) (by omega) (by first | decide | omega) dX0_isMatch_135 ?_
        refine z_iinc (lv' := [(7, .int (zI (t + (-1)))), (0, .ref (F.1 10)), (1, .ref (F.1 b)), (2, .int (zI line)), (3, .int (zI m)), (4, .int (zI slot)), (5, .int (zI id)), (6, .int (zI cm))]) 7 hG dX0_isMatch_136 rfl (by decide) rfl ?_
        refine z_goto (tgt := 74) hG dX0_isMatch_139 (by decide) ?_
        refine z_perm (lv' := [(0, .ref (F.1 10)), (1, .ref (F.1 b)), (2, .int (zI line)), (3, .int (zI m)), (4, .int (zI slot)), (5, .int (zI id)), (6, .int (zI cm)), (7, .int (zI (t + (-1))))]) [1, 2, 3, 4, 5, 6, 7, 0] rfl ?_
        exact k4 c76 c87 c109
      · skip
        refine z_aload_n 0 hG dX0_isMatch_112 rfl rfl ?_
        refine z_aload_n 1 hG dX0_isMatch_113 rfl rfl ?_
        refine z_iload 5 hG dX0_isMatch_114 rfl ?_
        refine z_iload_n 2 hG dX0_isMatch_116 rfl rfl ?_
        refine z_iload 7 hG dX0_isMatch_117 rfl ?_
        refine z_iconst 1 hG dX0_isMatch_119 ?_
        refine z_isub hG dX0_isMatch_120 ?_
        refine z_callSN [.int (zI line), .int (zI (t - 1))] hG hR (c_X3_placeOf hr) hd_X3_placeOf kw228 kw229 (by decide) (by decide) (by decide) (by decide) rfl rfl (Nat.le_of_ble_eq_true rfl) dX0_isMatch_121 (fun r I' hp => ?_)
        rw [hp.1, hp.2]
        show zW G F 0 0 I [(0, .ref (F.1 10)), (1, .ref (F.1 b)), (2, .int (zI line)), (3, .int (zI m)), (4, .int (zI slot)), (5, .int (zI id)), (6, .int (zI cm)), (7, .int (zI t))] [.int (zI ((line * 30) + (t - 1))), .int (zI id), .ref (F.1 b), .ref (F.1 10), .int (zI t), .ref (F.1 14)] 124
        refine z_callV [.ref (F.1 b), .int (zI id), .int (zI ((line * 30) + (t - 1)))] hG hR (c_X0_canTake hL hr hf_b (by omega) (by omega)) hd_X0_canTake kw545 kw547 kp15 rfl (zlt hL (by decide)) (zl10 hL) (by decide) (by decide) (by decide) (by decide) rfl rfl (Nat.le_of_ble_eq_true rfl) dX0_isMatch_124 (fun r I' hp => ?_)
        rw [hp.1, hp.2]
        have ha124_0 : (ztk I b id ((line * 30) + (t - 1))) = 0 ∨ (ztk I b id ((line * 30) + (t - 1))) = 1 := ztk_bd
        show zW G F 0 0 I [(0, .ref (F.1 10)), (1, .ref (F.1 b)), (2, .int (zI line)), (3, .int (zI m)), (4, .int (zI slot)), (5, .int (zI id)), (6, .int (zI cm)), (7, .int (zI t))] [.int (zI (ztk I b id ((line * 30) + (t - 1)))), .int (zI t), .ref (F.1 14)] 127
        refine z_if_eq (tgt := 134) hG dX0_isMatch_127 (by decide) (by omega) (fun c127 => ?_) (fun c127 => ?_)
        · skip
          refine z_iconst 0 hG dX0_isMatch_134 ?_
          refine z_zast hG (zlt hL (by decide)) (zl14 hL) (by decide) (by omega) (by first | decide | omega) dX0_isMatch_135 ?_
          refine z_iinc (lv' := [(7, .int (zI (t + (-1)))), (0, .ref (F.1 10)), (1, .ref (F.1 b)), (2, .int (zI line)), (3, .int (zI m)), (4, .int (zI slot)), (5, .int (zI id)), (6, .int (zI cm))]) 7 hG dX0_isMatch_136 rfl (by decide) rfl ?_
          refine z_goto (tgt := 74) hG dX0_isMatch_139 (by decide) ?_
          refine z_perm (lv' := [(0, .ref (F.1 10)), (1, .ref (F.1 b)), (2, .int (zI line)), (3, .int (zI m)), (4, .int (zI slot)), (5, .int (zI id)), (6, .int (zI cm)), (7, .int (zI (t + (-1))))]) [1, 2, 3, 4, 5, 6, 7, 0] rfl ?_
          exact k5 c76 c87 c109 c127
        · skip
          refine z_iconst 1 hG dX0_isMatch_130 ?_
          refine z_goto (tgt := 135) hG dX0_isMatch_131 (by decide) ?_
          refine z_zast hG (zlt hL (by decide)) (zl14 hL) (by decide) (by omega) (by first | decide | omega) dX0_isMatch_135 ?_
          refine z_iinc (lv' := [(7, .int (zI (t + (-1)))), (0, .ref (F.1 10)), (1, .ref (F.1 b)), (2, .int (zI line)), (3, .int (zI m)), (4, .int (zI slot)), (5, .int (zI id)), (6, .int (zI cm))]) 7 hG dX0_isMatch_136 rfl (by decide) rfl ?_
          refine z_goto (tgt := 74) hG dX0_isMatch_139 (by decide) ?_
          refine z_perm (lv' := [(0, .ref (F.1 10)), (1, .ref (F.1 b)), (2, .int (zI line)), (3, .int (zI m)), (4, .int (zI slot)), (5, .int (zI id)), (6, .int (zI cm)), (7, .int (zI (t + (-1))))]) [1, 2, 3, 4, 5, 6, 7, 0] rfl ?_
          exact k6 c76 c87 c109 c127
    · skip
      refine z_aload_n 0 hG dX0_isMatch_90 rfl rfl ?_
      refine z_getR (t := 14) hG zcl0 (zlt hL (by decide)) (zl10 hL) 9 (by decide) rfl kw89 dX0_isMatch_91 ?_
      refine z_iload 7 hG dX0_isMatch_94 rfl ?_
      refine z_zald (v := I 14 t) hG (zlt hL (by decide)) (zl14 hL) (by decide) (by omega) rfl dX0_isMatch_96 ?_
      refine z_if_ne (tgt := 130) hG dX0_isMatch_97 (by decide) (hr _ _) (fun c97 => ?_) (fun c97 => ?_)
      · skip
        refine z_iconst 1 hG dX0_isMatch_130 ?_
        refine z_goto (tgt := 135) hG dX0_isMatch_131 (by decide) ?_
        refine z_zast hG (zlt hL (by decide)) (zl14 hL) (by decide) (by omega) (by first | decide | omega) dX0_isMatch_135 ?_
        refine z_iinc (lv' := [(7, .int (zI (t + (-1)))), (0, .ref (F.1 10)), (1, .ref (F.1 b)), (2, .int (zI line)), (3, .int (zI m)), (4, .int (zI slot)), (5, .int (zI id)), (6, .int (zI cm))]) 7 hG dX0_isMatch_136 rfl (by decide) rfl ?_
        refine z_goto (tgt := 74) hG dX0_isMatch_139 (by decide) ?_
        refine z_perm (lv' := [(0, .ref (F.1 10)), (1, .ref (F.1 b)), (2, .int (zI line)), (3, .int (zI m)), (4, .int (zI slot)), (5, .int (zI id)), (6, .int (zI cm)), (7, .int (zI (t + (-1))))]) [1, 2, 3, 4, 5, 6, 7, 0] rfl ?_
        exact k7 c76 c87 c97
      · skip
        refine z_aload_n 0 hG dX0_isMatch_100 rfl rfl ?_
        refine z_getR (t := 14) hG zcl0 (zlt hL (by decide)) (zl10 hL) 9 (by decide) rfl kw89 dX0_isMatch_101 ?_
        refine z_iload 7 hG dX0_isMatch_104 rfl ?_
        refine z_iconst 1 hG dX0_isMatch_106 ?_
        refine z_isub hG dX0_isMatch_107 ?_
        refine z_zald (v := I 14 (t - 1)) hG (zlt hL (by decide)) (zl14 hL) (by decide) (by omega) rfl dX0_isMatch_108 ?_
        refine z_if_eq (tgt := 134) hG dX0_isMatch_109 (by decide) (hr _ _) (fun c109 => ?_) (fun c109 => ?_)
        · skip
          refine z_iconst 0 hG dX0_isMatch_134 ?_
          refine z_zast hG (zlt hL (by decide)) (zl14 hL) (by decide) (by omega) (by first | decide | omega) dX0_isMatch_135 ?_
          refine z_iinc (lv' := [(7, .int (zI (t + (-1)))), (0, .ref (F.1 10)), (1, .ref (F.1 b)), (2, .int (zI line)), (3, .int (zI m)), (4, .int (zI slot)), (5, .int (zI id)), (6, .int (zI cm))]) 7 hG dX0_isMatch_136 rfl (by decide) rfl ?_
          refine z_goto (tgt := 74) hG dX0_isMatch_139 (by decide) ?_
          refine z_perm (lv' := [(0, .ref (F.1 10)), (1, .ref (F.1 b)), (2, .int (zI line)), (3, .int (zI m)), (4, .int (zI slot)), (5, .int (zI id)), (6, .int (zI cm)), (7, .int (zI (t + (-1))))]) [1, 2, 3, 4, 5, 6, 7, 0] rfl ?_
          exact k8 c76 c87 c97 c109
        · skip
          refine z_aload_n 0 hG dX0_isMatch_112 rfl rfl ?_
          refine z_aload_n 1 hG dX0_isMatch_113 rfl rfl ?_
          refine z_iload 5 hG dX0_isMatch_114 rfl ?_
          refine z_iload_n 2 hG dX0_isMatch_116 rfl rfl ?_
          refine z_iload 7 hG dX0_isMatch_117 rfl ?_
          refine z_iconst 1 hG dX0_isMatch_119 ?_
          refine z_isub hG dX0_isMatch_120 ?_
          refine z_callSN [.int (zI line), .int (zI (t - 1))] hG hR (c_X3_placeOf hr) hd_X3_placeOf kw228 kw229 (by decide) (by decide) (by decide) (by decide) rfl rfl (Nat.le_of_ble_eq_true rfl) dX0_isMatch_121 (fun r I' hp => ?_)
          rw [hp.1, hp.2]
          show zW G F 0 0 I [(0, .ref (F.1 10)), (1, .ref (F.1 b)), (2, .int (zI line)), (3, .int (zI m)), (4, .int (zI slot)), (5, .int (zI id)), (6, .int (zI cm)), (7, .int (zI t))] [.int (zI ((line * 30) + (t - 1))), .int (zI id), .ref (F.1 b), .ref (F.1 10), .int (zI t), .ref (F.1 14)] 124
          refine z_callV [.ref (F.1 b), .int (zI id), .int (zI ((line * 30) + (t - 1)))] hG hR (c_X0_canTake hL hr hf_b (by omega) (by omega)) hd_X0_canTake kw545 kw547 kp15 rfl (zlt hL (by decide)) (zl10 hL) (by decide) (by decide) (by decide) (by decide) rfl rfl (Nat.le_of_ble_eq_true rfl) dX0_isMatch_124 (fun r I' hp => ?_)
          rw [hp.1, hp.2]
          have ha124_0 : (ztk I b id ((line * 30) + (t - 1))) = 0 ∨ (ztk I b id ((line * 30) + (t - 1))) = 1 := ztk_bd
          show zW G F 0 0 I [(0, .ref (F.1 10)), (1, .ref (F.1 b)), (2, .int (zI line)), (3, .int (zI m)), (4, .int (zI slot)), (5, .int (zI id)), (6, .int (zI cm)), (7, .int (zI t))] [.int (zI (ztk I b id ((line * 30) + (t - 1)))), .int (zI t), .ref (F.1 14)] 127
          refine z_if_eq (tgt := 134) hG dX0_isMatch_127 (by decide) (by omega) (fun c127 => ?_) (fun c127 => ?_)
          · skip
            refine z_iconst 0 hG dX0_isMatch_134 ?_
            refine z_zast hG (zlt hL (by decide)) (zl14 hL) (by decide) (by omega) (by first | decide | omega) dX0_isMatch_135 ?_
            refine z_iinc (lv' := [(7, .int (zI (t + (-1)))), (0, .ref (F.1 10)), (1, .ref (F.1 b)), (2, .int (zI line)), (3, .int (zI m)), (4, .int (zI slot)), (5, .int (zI id)), (6, .int (zI cm))]) 7 hG dX0_isMatch_136 rfl (by decide) rfl ?_
            refine z_goto (tgt := 74) hG dX0_isMatch_139 (by decide) ?_
            refine z_perm (lv' := [(0, .ref (F.1 10)), (1, .ref (F.1 b)), (2, .int (zI line)), (3, .int (zI m)), (4, .int (zI slot)), (5, .int (zI id)), (6, .int (zI cm)), (7, .int (zI (t + (-1))))]) [1, 2, 3, 4, 5, 6, 7, 0] rfl ?_
            exact k9 c76 c87 c97 c109 c127
          · skip
            refine z_iconst 1 hG dX0_isMatch_130 ?_
            refine z_goto (tgt := 135) hG dX0_isMatch_131 (by decide) ?_
            refine z_zast hG (zlt hL (by decide)) (zl14 hL) (by decide) (by omega) (by first | decide | omega) dX0_isMatch_135 ?_
            refine z_iinc (lv' := [(7, .int (zI (t + (-1)))), (0, .ref (F.1 10)), (1, .ref (F.1 b)), (2, .int (zI line)), (3, .int (zI m)), (4, .int (zI slot)), (5, .int (zI id)), (6, .int (zI cm))]) 7 hG dX0_isMatch_136 rfl (by decide) rfl ?_
            refine z_goto (tgt := 74) hG dX0_isMatch_139 (by decide) ?_
            refine z_perm (lv' := [(0, .ref (F.1 10)), (1, .ref (F.1 b)), (2, .int (zI line)), (3, .int (zI m)), (4, .int (zI slot)), (5, .int (zI id)), (6, .int (zI cm)), (7, .int (zI (t + (-1))))]) [1, 2, 3, 4, 5, 6, 7, 0] rfl ?_
            exact k10 c76 c87 c97 c109 c127

theorem zb_0 {x : Bool} (h : zb x = 0) : x = false := by cases x <;> simp_all [zb]
theorem zb_1 {x : Bool} (h : zb x ≠ 0) : x = true := by cases x <;> simp_all [zb]
def zcm (I : zStore) (b : Nat) (i : Nat) : Bool := decide (I (b + 6) (I (b + 1) i) < I b 1)
def ztkB (I : zStore) (b : Nat) (line : Int) (i t : Nat) : Bool := ztk I b (I (b + 1) i) (line * 30 + t) != 0
def zRR (I : zStore) (b : Nat) (line : Int) : Nat → Nat → Bool := zR (zcm I b) (ztkB I b line)
/-- the row of what is reached after i slots -/
def zM (I : zStore) (b : Nat) (line : Int) (m i : Nat) : zStore := zfl I 14 0 (m + 1) (fun t => zb (zRR I b line i t))
/-- the same on the way from i to i + 1, at t -/
def zN (I : zStore) (b : Nat) (line : Int) (m i t : Nat) : zStore := zfl I 14 0 (m + 1) (fun x => zb (if t < x then zRR I b line (i + 1) x else zRR I b line i x))
section ZM
variable {I : zStore} {b : Nat} {line : Int} {n m i t : Nat}
theorem zM_o {c : Nat} {j : Int} (h : c ≠ 14) : zM I b line m i c j = I c j := zfl_k h
theorem zN_o {c : Nat} {j : Int} (h : c ≠ 14) : zN I b line m i t c j = I c j := zfl_k h
theorem zN_m : zN I b line m i m = zM I b line m i := zfl_congr fun x hx => by rw [if_neg (by omega)]
theorem zN_at {x : Nat} {j : Int} (hx : x ≤ t) (ht : t ≤ m) (hj : j = x) : zN I b line m i t 14 j = zb (zRR I b line i x) := by
  unfold zN
  rw [zfl_in (m := x) (by omega) (by omega), if_neg (by omega)]
theorem zN_up {j v : Int} (ht : t + 1 ≤ m) (hv : v = zb (zRR I b line (i + 1) (t + 1))) (hj : j = ((t + 1 : Nat) : Int)) : zup (zN I b line m i (t + 1)) 14 j v = zN I b line m i t := by
  unfold zN
  rw [zfl_set (t := t + 1) (by omega) (by omega)]
  refine zfl_congr fun x hx => ?_
  by_cases h : x = t + 1
  · rw [if_pos h, if_pos (by omega), h, hv]
  · rw [if_neg h]
    by_cases h2 : t + 1 < x
    · rw [if_pos h2, if_pos (by omega)]
    · rw [if_neg h2, if_neg (by omega)]
theorem zN_0 {v : Int} (hv : v = zb (zRR I b line (i + 1) 0)) : zup (zN I b line m i 0) 14 0 v = zM I b line m (i + 1) := by
  unfold zN zM
  rw [zfl_set (t := 0) (by omega) (by omega)]
  refine zfl_congr fun x hx => ?_
  by_cases h : x = 0
  · rw [if_pos h, h, hv]
  · rw [if_neg h, if_pos (by omega)]
theorem zRg_b {f : Nat → Bool} {n : Nat} (hr : zRg I) : zRg (zfl I 14 0 n (fun t => zb (f t))) := zRg_fl hr fun k _ => by
  have := zb_bd (f k)
  omega
end ZM
theorem ztk_c {I J : zStore} {b k : Nat} {id p : Int} (h : ∀ c j, c ≠ k → J c j = I c j) (h1 : b + 2 ≠ k) (h2 : b + 3 ≠ k) (h3 : b + 4 ≠ k) (h4 : b + 5 ≠ k) (h5 : 6 ≠ k) (h6 : 8 ≠ k) (h7 : 9 ≠ k) : ztk J b id p = ztk I b id p := by
  unfold ztk
  rw [h _ _ h1, h _ _ h2, h _ _ h3, h _ _ h4, h _ _ h5, h _ _ h6, h _ _ h7]
set_option maxHeartbeats 4000000 in
theorem l_X0_isMatch_74 {G : zCx} {F : zFr} {I : zStore} {post : Option Value → zStore → Prop} {b : Nat} {line : Int} {n m i : Nat} (hG : zOK G "LineLearner$Aligner" cX0_isMatch 8) (hR : zRoom G rm_X0_isMatch) (hE : zRetZ G F cX0_isMatch 0 0 post) (hL : zLay F) (hr : zRg I) (hf_b : zFm F b) (hA : zAl I b line n m) (hi : i < n)
    (k : zW G F 0 0 (zM I b line m (i + 1)) [(0, .ref (F.1 10)), (1, .ref (F.1 b)), (2, .int (zI line)), (3, .int (zI m)), (4, .int (zI ((i : Int) + 1)))] [] 45) :
    ∀ t : Nat, t ≤ m → zW G F 0 0 (zN I b line m i t) [(0, .ref (F.1 10)), (1, .ref (F.1 b)), (2, .int (zI line)), (3, .int (zI m)), (4, .int (zI i)), (5, .int (zI (I (b + 1) i))), (6, .int (zI (zb (zcm I b i)))), (7, .int (zI t))] [] 74 := by
  have hb := hf_b.1
  obtain ⟨h1, h2, h3, h4, h5, h6, h7, h8, h9⟩ := hA
  have hc := zb_bd (zcm I b i)
  have hid := h6 i hi
  have hz : ∀ (t : Nat) (id p : Int), ztk (zN I b line m i t) b id p = ztk I b id p := fun t id p => ztk_c (fun c j h => zN_o h) (by omega) (by omega) (by omega) (by omega) (by decide) (by decide) (by decide)
  intro t
  induction t with
  | zero =>
    intro ht
    refine s_X0_isMatch_74 hG hR hE hL (zRg_b hr) hf_b h1 (by omega) (by omega) hid (by omega) (fun _ e => ?_) (fun _ e e2 => ?_) (fun _ e e2 => ?_) (fun h => absurd h (by omega)) (fun h => absurd h (by omega)) (fun h => absurd h (by omega)) (fun h => absurd h (by omega)) (fun h => absurd h (by omega)) (fun h => absurd h (by omega)) (fun h => absurd h (by omega))
    · rw [zN_0 (by simp only [zRR, zR]; rw [zb_0 e]; rfl)]
      exact k
    · rw [zN_at (x := 0) (by omega) (by omega) (by omega)] at e2
      rw [zN_0 (by simp only [zRR, zR]; have := zb_0 e2; simp only [zRR] at this; rw [this, Bool.and_false]; rfl)]
      exact k
    · rw [zN_at (x := 0) (by omega) (by omega) (by omega)] at e2
      rw [zN_0 (by simp only [zRR, zR]; have := zb_1 e2; simp only [zRR] at this; rw [this, zb_1 e]; rfl)]
      exact k
  | succ t ih =>
    intro ht
    have ih1 := ih (by omega)
    have key : ∀ v : Int, v = zb (zRR I b line (i + 1) (t + 1)) → zW G F 0 0 (zup (zN I b line m i (t + 1)) 14 ((t + 1 : Nat) : Int) v) [(0, .ref (F.1 10)), (1, .ref (F.1 b)), (2, .int (zI line)), (3, .int (zI m)), (4, .int (zI i)), (5, .int (zI (I (b + 1) i))), (6, .int (zI (zb (zcm I b i)))), (7, .int (zI (((t + 1 : Nat) : Int) + (-1))))] [] 74 := fun v hv => by
      rw [zN_up (by omega) hv rfl, show ((t + 1 : Nat) : Int) + (-1) = (t : Int) by omega]
      exact ih1
    have r0 : zN I b line m i (t + 1) 14 (((t + 1 : Nat) : Int) - 1) = zb (zR (zcm I b) (ztkB I b line) i t) := zN_at (x := t) (by omega) (by omega) (by omega)
    have r1 : zN I b line m i (t + 1) 14 ((t + 1 : Nat) : Int) = zb (zR (zcm I b) (ztkB I b line) i (t + 1)) := zN_at (x := t + 1) (by omega) (by omega) (by omega)
    have k0 : ∀ {z : Int}, ztk (zN I b line m i (t + 1)) b (I (b + 1) i) (line * 30 + (((t + 1 : Nat) : Int) - 1)) = z → (ztkB I b line i t) = (z != 0) := fun {z} e => by
      rw [hz] at e
      unfold ztkB
      rw [← e]
      congr 2
      omega
    refine s_X0_isMatch_74 hG hR hE hL (zRg_b hr) hf_b h1 (by omega) (by omega) hid (by omega) (fun h => absurd h (by omega)) (fun h => absurd h (by omega)) (fun h => absurd h (by omega)) (fun _ e e2 => key _ ?_) (fun _ e e2 e3 => key _ ?_) (fun _ e e2 e3 => key _ ?_) (fun _ e e2 => key _ ?_) (fun _ e e2 e3 => key _ ?_) (fun _ e e2 e3 e4 => key _ ?_) (fun _ e e2 e3 e4 => key _ ?_)
    · rw [r0] at e2
      simp only [zRR, zR]; rw [zb_0 e, zb_0 e2]; rfl
    · rw [r0] at e2
      simp only [zRR, zR]; rw [zb_0 e, zb_1 e2, k0 e3]; rfl
    · rw [r0] at e2
      have h3 : ztkB I b line i t = true := by rw [k0 rfl]; exact bne_iff_ne.mpr e3
      simp only [zRR, zR]; rw [zb_0 e, zb_1 e2, h3]; rfl
    · rw [r1] at e2
      simp only [zRR, zR]; rw [zb_1 e, zb_1 e2]; rfl
    · rw [r1] at e2; rw [r0] at e3
      simp only [zRR, zR]; rw [zb_1 e, zb_0 e2, zb_0 e3]; rfl
    · rw [r1] at e2; rw [r0] at e3
      simp only [zRR, zR]; rw [zb_1 e, zb_0 e2, zb_1 e3, k0 e4]; rfl
    · rw [r1] at e2; rw [r0] at e3
      have h3 : ztkB I b line i t = true := by rw [k0 rfl]; exact bne_iff_ne.mpr e4
      simp only [zRR, zR]; rw [zb_1 e, zb_0 e2, zb_1 e3, h3]; rfl
set_option maxHeartbeats 4000000 in
theorem l_X0_isMatch_45 {G : zCx} {F : zFr} {I : zStore} {post : Option Value → zStore → Prop} {b : Nat} {line : Int} {n m : Nat} (hG : zOK G "LineLearner$Aligner" cX0_isMatch 8) (hR : zRoom G rm_X0_isMatch) (hE : zRetZ G F cX0_isMatch 0 0 post) (hL : zLay F) (hr : zRg I) (hf_b : zFm F b) (hA : zAl I b line n m)
    (hp : post (some (.int (zI (zb (zRR I b line n m))))) (zM I b line m n)) :
    ∀ d i : Nat, i + d = n → zW G F 0 0 (zM I b line m i) [(0, .ref (F.1 10)), (1, .ref (F.1 b)), (2, .int (zI line)), (3, .int (zI m)), (4, .int (zI i))] [] 45 := by
  have hb := hf_b.1
  have hA' := hA
  obtain ⟨h1, h2, h3, h4, h5, h6, h7, h8, h9⟩ := hA'
  have o0 : ∀ i : Nat, zM I b line m i b 0 = n := fun i => by rw [zM_o (by omega)]; exact h2
  have a14 : ∀ i : Nat, zM I b line m i 14 m = zb (zRR I b line i m) := fun i => zfl_in (by omega) (by omega)
  intro d
  induction d with
  | zero =>
    intro i hi
    have hi1 : i = n := by omega
    subst hi1
    have hbd := zb_bd (zRR I b line i m)
    refine s_X0_isMatch_45 hG hR hE hL (zRg_b hr) hf_b (by rw [o0]; omega) (by omega) (by rw [a14]; omega) (fun _ h => absurd h (by rw [o0]; omega)) (fun _ => ?_) (fun h => absurd h (by rw [o0]; omega))
    rw [a14]
    exact hp
  | succ d ih =>
    intro i hi
    have hbd := zb_bd (zRR I b line i m)
    have hor : zM I b line m i (b + 1) i = I (b + 1) i := zM_o (by omega)
    refine s_X0_isMatch_45 hG hR hE hL (zRg_b hr) hf_b (by rw [o0]; omega) (by omega) (by rw [a14]; omega) (fun _ _ => by rw [hor]; exact h6 i (by omega)) (fun h => absurd h (by rw [o0]; omega)) (fun _ => ?_)
    rw [hor, zM_o (c := b + 6) (by omega), zM_o (c := b) (by omega)]
    have h := l_X0_isMatch_74 hG hR hE hL hr hf_b hA (i := i) (by omega) (ih (i + 1) (by omega)) m (Nat.le_refl m)
    rw [zN_m] at h
    have e : zb (zcm I b i) = if I (b + 6) (I (b + 1) i) < I b 1 then 1 else 0 := by
      unfold zb zcm
      by_cases q : I (b + 6) (I (b + 1) i) < I b 1
      · rw [if_pos q, decide_eq_true q]; rfl
      · rw [if_neg q, decide_eq_false q]; rfl
    rw [e] at h
    exact h
theorem zRR_0 {I : zStore} {b : Nat} {line : Int} {t : Nat} : zRR I b line 0 t = (t == 0) := by
  unfold zRR
  cases t <;> rfl
set_option maxHeartbeats 4000000 in
theorem l_X0_isMatch_13 {G : zCx} {F : zFr} {I : zStore} {post : Option Value → zStore → Prop} {b : Nat} {line : Int} {m : Nat} (hG : zOK G "LineLearner$Aligner" cX0_isMatch 8) (hR : zRoom G rm_X0_isMatch) (hE : zRetZ G F cX0_isMatch 0 0 post) (hL : zLay F) (hr : zRg I) (hf_b : zFm F b) (hm : m ≤ 30)
    (k : zW G F 0 0 (zM I b line m 0) [(0, .ref (F.1 10)), (1, .ref (F.1 b)), (2, .int (zI line)), (3, .int (zI m)), (4, .int (zI 0))] [] 45) :
    ∀ d t : Nat, t + d = m + 1 → zW G F 0 0 (zfl I 14 0 t (fun t => zb (zRR I b line 0 t))) [(0, .ref (F.1 10)), (1, .ref (F.1 b)), (2, .int (zI line)), (3, .int (zI m)), (4, .int (zI t))] [] 13 := by
  intro d
  induction d with
  | zero =>
    intro t ht
    have ht1 : t = m + 1 := by omega
    subst ht1
    exact s_X0_isMatch_13 hG hR hE hL (zRg_b hr) hf_b (by omega) (fun _ => k) (fun h => absurd h (by omega)) (fun h => absurd h (by omega))
  | succ d ih =>
    intro t ht
    refine s_X0_isMatch_13 hG hR hE hL (zRg_b hr) hf_b (by omega) (fun h => absurd h (by omega)) (fun _ e => ?_) (fun _ e => ?_)
    · rw [zfl_up (by rw [zRR_0, show (t == 0) = false from beq_false_of_ne (by omega)]; rfl) (by omega)]
      exact ih (t + 1) (by omega)
    · rw [zfl_up (by rw [zRR_0, show (t == 0) = true from beq_iff_eq.mpr (by omega)]; rfl) (by omega)]
      exact ih (t + 1) (by omega)
theorem c_X0_isMatch {F : zFr} {I : zStore} {b : Nat} {line : Int} {n m : Nat} (hL : zLay F) (hr : zRg I) (hf_b : zFm F b) (hA : zAl I b line n m) : ∀ (l : Launch) (D : va_G) (cs : Nat → ClassId), l.stackTraces = false → zMt l yX0_isMatch cX0_isMatch 8 (some .boolean) rm_X0_isMatch D cs F I [.ref (F.1 10), .ref (F.1 b), .int (zI line)] (fun r I' => r = some (.int (zI (zb (zRR I b line n m)))) ∧ I' = zM I b line m n) := by
  intro l D cs hst
  refine zMt.ofZ hst (by decide +kernel) (Nat.le_of_ble_eq_true rfl) fun G hG hR hE => ?_
  refine s_X0_isMatch_0 hG hR hE hL hr hf_b hA.1 ?_
  rw [hA.2.2.2.1]
  have h := l_X0_isMatch_13 hG hR hE hL hr hf_b hA.2.2.2.2.1 (l_X0_isMatch_45 hG hR hE hL hr hf_b hA ⟨rfl, rfl⟩ n 0 (by omega)) (m + 1) 0 (by omega)
  rw [zfl_0] at h
  exact h
