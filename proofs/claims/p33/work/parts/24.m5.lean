abbrev rm_X0_join : Room := { frames := 2, cells := 0, slots := 0, locals := 44 }
set_option maxRecDepth 100000 in
set_option maxHeartbeats 4000000 in
theorem s_X0_join_0 {G : zCx} {F : zFr} {I : zStore} {post : Option Value → zStore → Prop}{b : Nat} {line : Int} (hG : zOK G "LineLearner$Aligner" cX0_join 8) (hR : zRoom G rm_X0_join) (hE : zRetV G F cX0_join 0 0 post) (hL : zLay F) (hr : zRg I) (hf_b : zFm F b) (h1 : 0 ≤ line ∧ line < 12)
    (k1 : zW G F 0 0 I [(0, .ref (F.1 10)), (1, .ref (F.1 b)), (2, .int (zI line)), (3, .int (zI (I b 0))), (4, .int (zI (I 4 line))), (5, .int (zI ((I b 0) + (I 10 7)))), (6, .int (zI 0))] [] 27) :
    zW G F 0 0 I [(0, .ref (F.1 10)), (1, .ref (F.1 b)), (2, .int (zI line))] [] 0 := by
  have hfb_b := hf_b.1
  refine z_aload_n 1 hG dX0_join_0 rfl rfl ?_
  refine z_getIN (v := I b 0) hG zcl1 (zfN0 hf_b) (zf0 hf_b) 0 (by decide) rfl rfl rfl kw119 dX0_join_1 ?_
  refine z_istore_n (lv' := [(3, .int (zI (I b 0))), (0, .ref (F.1 10)), (1, .ref (F.1 b)), (2, .int (zI line))]) hG dX0_join_4 rfl (by decide) rfl ?_
  refine z_aload_n 1 hG dX0_join_5 rfl rfl ?_
  refine z_getR (t := 2) hG zcl0 (zlt hL (by decide)) (zl10 hL) 0 (by decide) rfl kw76 dX0_join_6 ?_
  refine z_getRN (t := 4) hG zcl2 (zlt hL (by decide)) (zl2 hL) 2 (by decide) rfl kw33 dX0_join_9 ?_
  refine z_iload_n 3 hG dX0_join_12 rfl rfl ?_
  refine z_iald (v := I 4 line) hG (zlt hL (by decide)) (zl4 hL) (by decide) (by omega) rfl dX0_join_13 ?_
  refine z_istore (lv' := [(4, .int (zI (I 4 line))), (3, .int (zI (I b 0))), (0, .ref (F.1 10)), (1, .ref (F.1 b)), (2, .int (zI line))]) hG dX0_join_14 (by decide) rfl ?_
  refine z_iload_n 1 hG dX0_join_16 rfl rfl ?_
  refine z_aload_n 2 hG dX0_join_17 rfl rfl ?_
  refine z_getI (v := I 10 7) hG zcl0 (zlt hL (by decide)) (zl10 hL) 7 (by decide) rfl rfl rfl kw86 dX0_join_18 ?_
  refine z_iadd hG dX0_join_21 ?_
  refine z_istore (lv' := [(5, .int (zI ((I b 0) + (I 10 7)))), (4, .int (zI (I 4 line))), (3, .int (zI (I b 0))), (0, .ref (F.1 10)), (1, .ref (F.1 b)), (2, .int (zI line))]) hG dX0_join_22 (by decide) rfl ?_
  refine z_iconst 0 hG dX0_join_24 ?_
  refine z_istore (lv' := [(6, .int (zI 0)), (5, .int (zI ((I b 0) + (I 10 7)))), (4, .int (zI (I 4 line))), (3, .int (zI (I b 0))), (0, .ref (F.1 10)), (1, .ref (F.1 b)), (2, .int (zI line))]) hG dX0_join_25 (by decide) rfl ?_
  refine z_perm (lv' := [(0, .ref (F.1 10)), (1, .ref (F.1 b)), (2, .int (zI line)), (3, .int (zI (I b 0))), (4, .int (zI (I 4 line))), (5, .int (zI ((I b 0) + (I 10 7)))), (6, .int (zI 0))]) [4, 5, 6, 3, 2, 1, 0] rfl ?_
  exact k1

set_option maxRecDepth 100000 in
set_option maxHeartbeats 4000000 in
theorem s_X0_join_27 {G : zCx} {F : zFr} {I : zStore} {post : Option Value → zStore → Prop}{b : Nat} {line slots tokens to c : Int} (hG : zOK G "LineLearner$Aligner" cX0_join 8) (hR : zRoom G rm_X0_join) (hE : zRetV G F cX0_join 0 0 post) (hL : zLay F) (hr : zRg I) (hf_b : zFm F b) (h1 : 0 ≤ line ∧ line < 12) (h2 : 0 ≤ slots ∧ slots ≤ 40) (h3 : 0 ≤ tokens ∧ tokens ≤ 30) (h4 : 0 ≤ to ∧ to ≤ 40) (h5 : 0 ≤ c ∧ c ≤ 70 ∧ I 10 6 ≤ 70) (g0 : ∀ _u : Unit, c < I 10 6 → 1 ≤ to) (g1 : ∀ _u : Unit, c < I 10 6 → I 12 c = 2 → 1 ≤ tokens ∧ 0 ≤ I b 0 ∧ I b 0 < 40) (g2 : ∀ _u : Unit, c < I 10 6 → I 12 c ≠ 2 → 1 ≤ slots ∧ 0 ≤ I (b + 1) (slots + (-1)) ∧ I (b + 1) (slots + (-1)) < 40 ∧ 0 ≤ I (b + 6) (I (b + 1) (slots + (-1))) ∧ I (b + 6) (I (b + 1) (slots + (-1))) < 100) (g3 : ∀ _u : Unit, c < I 10 6 → I 12 c ≠ 1 → 1 ≤ tokens) (h6 : 0 ≤ I b 1 ∧ I b 1 < 100)
    (k1 : ((I 10 6) ≤ c) → post (none) (zup I b 1 ((I b 1) + 1)))
    (k2 : (c < (I 10 6)) → ((I 12 c) ≠ 2) → ((I 12 c) ≠ 0) → ((I 12 c) = 1) → zW G F 0 0 (zup I (b + 1) (to + (-1)) (I (b + 1) (slots + (-1)))) [(0, .ref (F.1 10)), (1, .ref (F.1 b)), (2, .int (zI line)), (3, .int (zI (slots + (-1)))), (4, .int (zI tokens)), (5, .int (zI (to + (-1)))), (6, .int (zI (c + 1)))] [] 27)
    (k3 : (c < (I 10 6)) → ((I 12 c) ≠ 2) → ((I 12 c) ≠ 0) → ((I 12 c) ≠ 1) → zW G F 0 0 (zup (zup I 13 (tokens + (-1)) (I (b + 1) (slots + (-1)))) (b + 1) (to + (-1)) (I (b + 1) (slots + (-1)))) [(0, .ref (F.1 10)), (1, .ref (F.1 b)), (2, .int (zI line)), (3, .int (zI (slots + (-1)))), (4, .int (zI (tokens + (-1)))), (5, .int (zI (to + (-1)))), (6, .int (zI (c + 1)))] [] 27)
    (k4 : (c < (I 10 6)) → ((I 12 c) ≠ 2) → ((I 12 c) = 0) → ((I 12 c) = 1) → zW G F 0 0 (zup (zup (zup (zup (zup I (b + 3) (I (b + 1) (slots + (-1))) (if I (b + 3) (I (b + 1) (slots + (-1))) = I 9 ((line * 30) + (tokens - 1)) then I (b + 3) (I (b + 1) (slots + (-1))) else (-1))) (b + 4) (I (b + 1) (slots + (-1))) (min (I (b + 4) (I (b + 1) (slots + (-1)))) (I 8 ((line * 30) + (tokens - 1))))) (b + 5) (I (b + 1) (slots + (-1))) (max (I (b + 5) (I (b + 1) (slots + (-1)))) (I 8 ((line * 30) + (tokens - 1))))) (b + 6) (I (b + 1) (slots + (-1))) (I (b + 6) (I (b + 1) (slots + (-1))) + 1)) (b + 1) (to + (-1)) (I (b + 1) (slots + (-1)))) [(0, .ref (F.1 10)), (1, .ref (F.1 b)), (2, .int (zI line)), (3, .int (zI (slots + (-1)))), (4, .int (zI tokens)), (5, .int (zI (to + (-1)))), (6, .int (zI (c + 1)))] [] 27)
    (k5 : (c < (I 10 6)) → ((I 12 c) ≠ 2) → ((I 12 c) = 0) → ((I 12 c) ≠ 1) → zW G F 0 0 (zup (zup (zup (zup (zup (zup I (b + 3) (I (b + 1) (slots + (-1))) (if I (b + 3) (I (b + 1) (slots + (-1))) = I 9 ((line * 30) + (tokens - 1)) then I (b + 3) (I (b + 1) (slots + (-1))) else (-1))) (b + 4) (I (b + 1) (slots + (-1))) (min (I (b + 4) (I (b + 1) (slots + (-1)))) (I 8 ((line * 30) + (tokens - 1))))) (b + 5) (I (b + 1) (slots + (-1))) (max (I (b + 5) (I (b + 1) (slots + (-1)))) (I 8 ((line * 30) + (tokens - 1))))) (b + 6) (I (b + 1) (slots + (-1))) (I (b + 6) (I (b + 1) (slots + (-1))) + 1)) 13 (tokens + (-1)) (I (b + 1) (slots + (-1)))) (b + 1) (to + (-1)) (I (b + 1) (slots + (-1)))) [(0, .ref (F.1 10)), (1, .ref (F.1 b)), (2, .int (zI line)), (3, .int (zI (slots + (-1)))), (4, .int (zI (tokens + (-1)))), (5, .int (zI (to + (-1)))), (6, .int (zI (c + 1)))] [] 27)
    (k6 : (c < (I 10 6)) → ((I 12 c) = 2) → ((I 12 c) = 1) → zW G F 0 0 (zup (zup (zup (zup (zup (zup (zup I b 0 ((I b 0) + 1)) (b + 2) (I b 0) (I 6 ((line * 30) + (tokens - 1)))) (b + 3) (I b 0) (I 9 ((line * 30) + (tokens - 1)))) (b + 4) (I b 0) (I 8 ((line * 30) + (tokens - 1)))) (b + 5) (I b 0) (I 8 ((line * 30) + (tokens - 1)))) (b + 6) (I b 0) 1) (b + 1) (to + (-1)) (I b 0)) [(0, .ref (F.1 10)), (1, .ref (F.1 b)), (2, .int (zI line)), (3, .int (zI slots)), (4, .int (zI tokens)), (5, .int (zI (to + (-1)))), (6, .int (zI (c + 1)))] [] 27)
    (k7 : (c < (I 10 6)) → ((I 12 c) = 2) → ((I 12 c) ≠ 1) → zW G F 0 0 (zup (zup (zup (zup (zup (zup (zup (zup I b 0 ((I b 0) + 1)) (b + 2) (I b 0) (I 6 ((line * 30) + (tokens - 1)))) (b + 3) (I b 0) (I 9 ((line * 30) + (tokens - 1)))) (b + 4) (I b 0) (I 8 ((line * 30) + (tokens - 1)))) (b + 5) (I b 0) (I 8 ((line * 30) + (tokens - 1)))) (b + 6) (I b 0) 1) 13 (tokens + (-1)) (I b 0)) (b + 1) (to + (-1)) (I b 0)) [(0, .ref (F.1 10)), (1, .ref (F.1 b)), (2, .int (zI line)), (3, .int (zI slots)), (4, .int (zI (tokens + (-1)))), (5, .int (zI (to + (-1)))), (6, .int (zI (c + 1)))] [] 27) :
    zW G F 0 0 I [(0, .ref (F.1 10)), (1, .ref (F.1 b)), (2, .int (zI line)), (3, .int (zI slots)), (4, .int (zI tokens)), (5, .int (zI to)), (6, .int (zI c))] [] 27 := by
  have hfb_b := hf_b.1
  refine z_iload 6 hG dX0_join_27 rfl ?_
  refine z_aload_n 0 hG dX0_join_29 rfl rfl ?_
  refine z_getI (v := I 10 6) hG zcl0 (zlt hL (by decide)) (zl10 hL) 6 (by decide) rfl rfl rfl kw85 dX0_join_30 ?_
  refine z_icmp_ge (tgt := 148) hG dX0_join_33 (by decide) (by omega) (hr _ _) (fun c33 => ?_) (fun c33 => ?_)
  · skip
    refine z_aload_n 1 hG dX0_join_148 rfl rfl ?_
    refine z_dup hG dX0_join_149 rfl ?_
    refine z_getIN (v := I b 1) hG zcl1 (zfN0 hf_b) (zf0 hf_b) 1 (by decide) rfl rfl rfl kw122 dX0_join_150 ?_
    refine z_iconst 1 hG dX0_join_153 ?_
    refine z_iadd hG dX0_join_154 ?_
    refine z_putIN hG zcl1 (zfN0 hf_b) (zf0 hf_b) 1 (by decide) (ki := 1) rfl rfl kw122 rfl rfl dX0_join_155 ?_
    exact hE _ _ _ dX0_join_158 (k1 c33)
  · skip
    have q0 := g0 () c33
    refine z_iinc (lv' := [(5, .int (zI (to + (-1)))), (0, .ref (F.1 10)), (1, .ref (F.1 b)), (2, .int (zI line)), (3, .int (zI slots)), (4, .int (zI tokens)), (6, .int (zI c))]) 5 hG dX0_join_36 rfl (by decide) rfl ?_
    refine z_aload_n 1 hG dX0_join_39 rfl rfl ?_
    refine z_getR (t := 12) hG zcl0 (zlt hL (by decide)) (zl10 hL) 5 (by decide) rfl kw84 dX0_join_40 ?_
    refine z_iload 6 hG dX0_join_43 rfl ?_
    refine z_iald (v := I 12 c) hG (zlt hL (by decide)) (zl12 hL) (by decide) (by omega) rfl dX0_join_45 ?_
    refine z_iconst 2 hG dX0_join_46 ?_
    refine z_icmp_ne (tgt := 71) hG dX0_join_47 (by decide) (hr _ _) (by decide) (fun c47 => ?_) (fun c47 => ?_)
    · skip
      have q2 := g2 () c33 c47
      refine z_iinc (lv' := [(3, .int (zI (slots + (-1)))), (5, .int (zI (to + (-1)))), (0, .ref (F.1 10)), (1, .ref (F.1 b)), (2, .int (zI line)), (4, .int (zI tokens)), (6, .int (zI c))]) 4 hG dX0_join_71 rfl (by decide) rfl ?_
      refine z_aload_n 3 hG dX0_join_74 rfl rfl ?_
      refine z_getRN (t := (b + 1)) hG zcl1 (zfN0 hf_b) (zf0 hf_b) 2 (by decide) rfl kw125 dX0_join_75 ?_
      refine z_iload_n 0 hG dX0_join_78 rfl rfl ?_
      refine z_iald (v := I (b + 1) (slots + (-1))) hG (zfN1 hf_b) (zf1 hf_b) (by decide) (by omega) rfl dX0_join_79 ?_
      refine z_istore (lv' := [(7, .int (zI (I (b + 1) (slots + (-1))))), (3, .int (zI (slots + (-1)))), (5, .int (zI (to + (-1)))), (0, .ref (F.1 10)), (1, .ref (F.1 b)), (2, .int (zI line)), (4, .int (zI tokens)), (6, .int (zI c))]) hG dX0_join_80 (by decide) rfl ?_
      refine z_aload_n 3 hG dX0_join_82 rfl rfl ?_
      refine z_getR (t := 12) hG zcl0 (zlt hL (by decide)) (zl10 hL) 5 (by decide) rfl kw84 dX0_join_83 ?_
      refine z_iload 7 hG dX0_join_86 rfl ?_
      refine z_iald (v := I 12 c) hG (zlt hL (by decide)) (zl12 hL) (by decide) (by omega) rfl dX0_join_88 ?_
      refine z_if_ne (tgt := 110) hG dX0_join_89 (by decide) (hr _ _) (fun c89 => ?_) (fun c89 => ?_)
      · skip
        refine z_aload_n 3 hG dX0_join_110 rfl rfl ?_
        refine z_getR (t := 12) hG zcl0 (zlt hL (by decide)) (zl10 hL) 5 (by decide) rfl kw84 dX0_join_111 ?_
        refine z_iload 7 hG dX0_join_114 rfl ?_
        refine z_iald (v := I 12 c) hG (zlt hL (by decide)) (zl12 hL) (by decide) (by omega) rfl dX0_join_116 ?_
        refine z_iconst 1 hG dX0_join_117 ?_
        refine z_icmp_eq (tgt := 133) hG dX0_join_118 (by decide) (hr _ _) (by decide) (fun c118 => ?_) (fun c118 => ?_)
        · skip
          refine z_aload_n 4 hG dX0_join_133 rfl rfl ?_
          refine z_getRN (t := (b + 1)) hG zcl1 (zfN0 hf_b) (zf0 hf_b) 2 (by decide) rfl kw125 dX0_join_134 ?_
          refine z_iload 2 hG dX0_join_137 rfl ?_
          refine z_iload 0 hG dX0_join_139 rfl ?_
          refine z_iast hG (zfN1 hf_b) (zf1 hf_b) (by decide) (by omega) dX0_join_141 ?_
          refine z_iinc (lv' := [(6, .int (zI (c + 1))), (7, .int (zI (I (b + 1) (slots + (-1))))), (3, .int (zI (slots + (-1)))), (5, .int (zI (to + (-1)))), (0, .ref (F.1 10)), (1, .ref (F.1 b)), (2, .int (zI line)), (4, .int (zI tokens))]) 7 hG dX0_join_142 rfl (by decide) rfl ?_
          refine z_goto (tgt := 27) hG dX0_join_145 (by decide) ?_
          refine z_perm (lv' := [(0, .ref (F.1 10)), (1, .ref (F.1 b)), (2, .int (zI line)), (3, .int (zI (slots + (-1)))), (4, .int (zI tokens)), (5, .int (zI (to + (-1)))), (6, .int (zI (c + 1)))]) [4, 5, 6, 2, 7, 3, 0] rfl ?_
          exact k2 c33 c47 c89 c118
        · skip
          have q4 := g3 () c33 c118
          refine z_iinc (lv' := [(4, .int (zI (tokens + (-1)))), (7, .int (zI (I (b + 1) (slots + (-1))))), (3, .int (zI (slots + (-1)))), (5, .int (zI (to + (-1)))), (0, .ref (F.1 10)), (1, .ref (F.1 b)), (2, .int (zI line)), (6, .int (zI c))]) 6 hG dX0_join_121 rfl (by decide) rfl ?_
          refine z_aload_n 4 hG dX0_join_124 rfl rfl ?_
          refine z_getR (t := 13) hG zcl0 (zlt hL (by decide)) (zl10 hL) 8 (by decide) rfl kw87 dX0_join_125 ?_
          refine z_iload 0 hG dX0_join_128 rfl ?_
          refine z_iload 1 hG dX0_join_130 rfl ?_
          refine z_iast hG (zlt hL (by decide)) (zl13 hL) (by decide) (by omega) dX0_join_132 ?_
          refine z_aload_n 5 hG dX0_join_133 rfl rfl ?_
          refine z_getRN (t := (b + 1)) hG zcl1 (zfN0 hf_b) (zf0 hf_b) 2 (by decide) rfl kw125 dX0_join_134 ?_
          refine z_iload 3 hG dX0_join_137 rfl ?_
          refine z_iload 1 hG dX0_join_139 rfl ?_
          refine z_iast hG (zfN1 hf_b) (zf1 hf_b) (by decide) (by omega) dX0_join_141 ?_
          refine z_iinc (lv' := [(6, .int (zI (c + 1))), (4, .int (zI (tokens + (-1)))), (7, .int (zI (I (b + 1) (slots + (-1))))), (3, .int (zI (slots + (-1)))), (5, .int (zI (to + (-1)))), (0, .ref (F.1 10)), (1, .ref (F.1 b)), (2, .int (zI line))]) 7 hG dX0_join_142 rfl (by decide) rfl ?_
          refine z_goto (tgt := 27) hG dX0_join_145 (by decide) ?_
          refine z_perm (lv' := [(0, .ref (F.1 10)), (1, .ref (F.1 b)), (2, .int (zI line)), (3, .int (zI (slots + (-1)))), (4, .int (zI (tokens + (-1)))), (5, .int (zI (to + (-1)))), (6, .int (zI (c + 1)))]) [5, 6, 7, 3, 1, 4, 0] rfl ?_
          exact k3 c33 c47 c89 c118
      · skip
        have q3 := g3 () c33 (by rw [c89]; decide)
        refine z_aload_n 4 hG dX0_join_92 rfl rfl ?_
        refine z_iload 0 hG dX0_join_93 rfl ?_
        refine z_aload_n 3 hG dX0_join_95 rfl rfl ?_
        refine z_getR (t := 2) hG zcl0 (zlt hL (by decide)) (zl10 hL) 0 (by decide) rfl kw76 dX0_join_96 ?_
        refine z_iload_n 5 hG dX0_join_99 rfl rfl ?_
        refine z_iload 6 hG dX0_join_100 rfl ?_
        refine z_iconst 1 hG dX0_join_102 ?_
        refine z_isub hG dX0_join_103 ?_
        refine z_callSN [.int (zI line), .int (zI (tokens - 1))] hG hR (c_X3_placeOf hr) hd_X3_placeOf kw228 kw229 (by decide) (by decide) (by decide) (by decide) rfl rfl (Nat.le_of_ble_eq_true rfl) dX0_join_104 (fun r I' hp => ?_)
        rw [hp.1, hp.2]
        show zW G F 0 0 I [(7, .int (zI (I (b + 1) (slots + (-1))))), (3, .int (zI (slots + (-1)))), (5, .int (zI (to + (-1)))), (0, .ref (F.1 10)), (1, .ref (F.1 b)), (2, .int (zI line)), (4, .int (zI tokens)), (6, .int (zI c))] [.int (zI ((line * 30) + (tokens - 1))), .ref (F.1 2), .int (zI (I (b + 1) (slots + (-1)))), .ref (F.1 b)] 107
        refine z_callV [.int (zI (I (b + 1) (slots + (-1)))), .ref (F.1 2), .int (zI ((line * 30) + (tokens - 1)))] hG hR (c_X1_useSlot hL hr hf_b (by omega) (by omega) (by omega)) hd_X1_useSlot kw514 kw515 kw516 rfl (zfN0 hf_b) (zf0 hf_b) (by decide) (by decide) (by decide) (by decide) rfl rfl (Nat.le_of_ble_eq_true rfl) dX0_join_107 (fun r I' hp => ?_)
        rw [hp.1, hp.2]
        show zW G F 0 0 (zup (zup (zup (zup I (b + 3) (I (b + 1) (slots + (-1))) (if I (b + 3) (I (b + 1) (slots + (-1))) = I 9 ((line * 30) + (tokens - 1)) then I (b + 3) (I (b + 1) (slots + (-1))) else (-1))) (b + 4) (I (b + 1) (slots + (-1))) (min (I (b + 4) (I (b + 1) (slots + (-1)))) (I 8 ((line * 30) + (tokens - 1))))) (b + 5) (I (b + 1) (slots + (-1))) (max (I (b + 5) (I (b + 1) (slots + (-1)))) (I 8 ((line * 30) + (tokens - 1))))) (b + 6) (I (b + 1) (slots + (-1))) (I (b + 6) (I (b + 1) (slots + (-1))) + 1)) [(7, .int (zI (I (b + 1) (slots + (-1))))), (3, .int (zI (slots + (-1)))), (5, .int (zI (to + (-1)))), (0, .ref (F.1 10)), (1, .ref (F.1 b)), (2, .int (zI line)), (4, .int (zI tokens)), (6, .int (zI c))] [] 110
        refine z_aload_n 3 hG dX0_join_110 rfl rfl ?_
        refine z_getR (t := 12) hG zcl0 (zlt hL (by decide)) (zl10 hL) 5 (by decide) rfl kw84 dX0_join_111 ?_
        refine z_iload 7 hG dX0_join_114 rfl ?_
        refine z_iald (v := I 12 c) hG (zlt hL (by decide)) (zl12 hL) (by decide) (by omega) ((zup_k (by omega)).trans ((zup_k (by omega)).trans ((zup_k (by omega)).trans (zup_k (by omega))))) dX0_join_116 ?_
        refine z_iconst 1 hG dX0_join_117 ?_
        refine z_icmp_eq (tgt := 133) hG dX0_join_118 (by decide) (hr _ _) (by decide) (fun c118 => ?_) (fun c118 => ?_)
        · skip
          refine z_aload_n 4 hG dX0_join_133 rfl rfl ?_
          refine z_getRN (t := (b + 1)) hG zcl1 (zfN0 hf_b) (zf0 hf_b) 2 (by decide) rfl kw125 dX0_join_134 ?_
          refine z_iload 2 hG dX0_join_137 rfl ?_
          refine z_iload 0 hG dX0_join_139 rfl ?_
          refine z_iast hG (zfN1 hf_b) (zf1 hf_b) (by decide) (by omega) dX0_join_141 ?_
          refine z_iinc (lv' := [(6, .int (zI (c + 1))), (7, .int (zI (I (b + 1) (slots + (-1))))), (3, .int (zI (slots + (-1)))), (5, .int (zI (to + (-1)))), (0, .ref (F.1 10)), (1, .ref (F.1 b)), (2, .int (zI line)), (4, .int (zI tokens))]) 7 hG dX0_join_142 rfl (by decide) rfl ?_
          refine z_goto (tgt := 27) hG dX0_join_145 (by decide) ?_
          refine z_perm (lv' := [(0, .ref (F.1 10)), (1, .ref (F.1 b)), (2, .int (zI line)), (3, .int (zI (slots + (-1)))), (4, .int (zI tokens)), (5, .int (zI (to + (-1)))), (6, .int (zI (c + 1)))]) [4, 5, 6, 2, 7, 3, 0] rfl ?_
          exact k4 c33 c47 c89 c118
        · skip
          have q4 := g3 () c33 c118
          refine z_iinc (lv' := [(4, .int (zI (tokens + (-1)))), (7, .int (zI (I (b + 1) (slots + (-1))))), (3, .int (zI (slots + (-1)))), (5, .int (zI (to + (-1)))), (0, .ref (F.1 10)), (1, .ref (F.1 b)), (2, .int (zI line)), (6, .int (zI c))]) 6 hG dX0_join_121 rfl (by decide) rfl ?_
          refine z_aload_n 4 hG dX0_join_124 rfl rfl ?_
          refine z_getR (t := 13) hG zcl0 (zlt hL (by decide)) (zl10 hL) 8 (by decide) rfl kw87 dX0_join_125 ?_
          refine z_iload 0 hG dX0_join_128 rfl ?_
          refine z_iload 1 hG dX0_join_130 rfl ?_
          refine z_iast hG (zlt hL (by decide)) (zl13 hL) (by decide) (by omega) dX0_join_132 ?_
          refine z_aload_n 5 hG dX0_join_133 rfl rfl ?_
          refine z_getRN (t := (b + 1)) hG zcl1 (zfN0 hf_b) (zf0 hf_b) 2 (by decide) rfl kw125 dX0_join_134 ?_
          refine z_iload 3 hG dX0_join_137 rfl ?_
          refine z_iload 1 hG dX0_join_139 rfl ?_
          refine z_iast hG (zfN1 hf_b) (zf1 hf_b) (by decide) (by omega) dX0_join_141 ?_
          refine z_iinc (lv' := [(6, .int (zI (c + 1))), (4, .int (zI (tokens + (-1)))), (7, .int (zI (I (b + 1) (slots + (-1))))), (3, .int (zI (slots + (-1)))), (5, .int (zI (to + (-1)))), (0, .ref (F.1 10)), (1, .ref (F.1 b)), (2, .int (zI line))]) 7 hG dX0_join_142 rfl (by decide) rfl ?_
          refine z_goto (tgt := 27) hG dX0_join_145 (by decide) ?_
          refine z_perm (lv' := [(0, .ref (F.1 10)), (1, .ref (F.1 b)), (2, .int (zI line)), (3, .int (zI (slots + (-1)))), (4, .int (zI (tokens + (-1)))), (5, .int (zI (to + (-1)))), (6, .int (zI (c + 1)))]) [5, 6, 7, 3, 1, 4, 0] rfl ?_
          exact k5 c33 c47 c89 c118
    · skip
      have q1 := g1 () c33 c47
      refine z_aload_n 2 hG dX0_join_50 rfl rfl ?_
      refine z_aload_n 1 hG dX0_join_51 rfl rfl ?_
      refine z_getR (t := 2) hG zcl0 (zlt hL (by decide)) (zl10 hL) 0 (by decide) rfl kw76 dX0_join_52 ?_
      refine z_iload_n 3 hG dX0_join_55 rfl rfl ?_
      refine z_iload 5 hG dX0_join_56 rfl ?_
      refine z_iconst 1 hG dX0_join_58 ?_
      refine z_isub hG dX0_join_59 ?_
      refine z_callSN [.int (zI line), .int (zI (tokens - 1))] hG hR (c_X3_placeOf hr) hd_X3_placeOf kw228 kw229 (by decide) (by decide) (by decide) (by decide) rfl rfl (Nat.le_of_ble_eq_true rfl) dX0_join_60 (fun r I' hp => ?_)
      rw [hp.1, hp.2]
      show zW G F 0 0 I [(5, .int (zI (to + (-1)))), (0, .ref (F.1 10)), (1, .ref (F.1 b)), (2, .int (zI line)), (3, .int (zI slots)), (4, .int (zI tokens)), (6, .int (zI c))] [.int (zI ((line * 30) + (tokens - 1))), .ref (F.1 2), .ref (F.1 b)] 63
      refine z_callV [.ref (F.1 2), .int (zI ((line * 30) + (tokens - 1)))] hG hR (c_X1_addSlot hL hr hf_b (by omega) (by omega)) hd_X1_addSlot kw510 kw511 kw512 rfl (zfN0 hf_b) (zf0 hf_b) (by decide) (by decide) (by decide) (by decide) rfl rfl (Nat.le_of_ble_eq_true rfl) dX0_join_63 (fun r I' hp => ?_)
      rw [hp.1, hp.2]
      show zW G F 0 0 (zup (zup (zup (zup (zup (zup I b 0 ((I b 0) + 1)) (b + 2) (I b 0) (I 6 ((line * 30) + (tokens - 1)))) (b + 3) (I b 0) (I 9 ((line * 30) + (tokens - 1)))) (b + 4) (I b 0) (I 8 ((line * 30) + (tokens - 1)))) (b + 5) (I b 0) (I 8 ((line * 30) + (tokens - 1)))) (b + 6) (I b 0) 1) [(5, .int (zI (to + (-1)))), (0, .ref (F.1 10)), (1, .ref (F.1 b)), (2, .int (zI line)), (3, .int (zI slots)), (4, .int (zI tokens)), (6, .int (zI c))] [.int (zI (I b 0))] 66
      refine z_istore (lv' := [(7, .int (zI (I b 0))), (5, .int (zI (to + (-1)))), (0, .ref (F.1 10)), (1, .ref (F.1 b)), (2, .int (zI line)), (3, .int (zI slots)), (4, .int (zI tokens)), (6, .int (zI c))]) hG dX0_join_66 (by decide) rfl ?_
      refine z_goto (tgt := 110) hG dX0_join_68 (by decide) ?_
      refine z_aload_n 2 hG dX0_join_110 rfl rfl ?_
      refine z_getR (t := 12) hG zcl0 (zlt hL (by decide)) (zl10 hL) 5 (by decide) rfl kw84 dX0_join_111 ?_
      refine z_iload 7 hG dX0_join_114 rfl ?_
      refine z_iald (v := I 12 c) hG (zlt hL (by decide)) (zl12 hL) (by decide) (by omega) ((zup_k (by omega)).trans ((zup_k (by omega)).trans ((zup_k (by omega)).trans ((zup_k (by omega)).trans ((zup_k (by omega)).trans (zup_k (by omega))))))) dX0_join_116 ?_
      refine z_iconst 1 hG dX0_join_117 ?_
      refine z_icmp_eq (tgt := 133) hG dX0_join_118 (by decide) (hr _ _) (by decide) (fun c118 => ?_) (fun c118 => ?_)
      · skip
        refine z_aload_n 3 hG dX0_join_133 rfl rfl ?_
        refine z_getRN (t := (b + 1)) hG zcl1 (zfN0 hf_b) (zf0 hf_b) 2 (by decide) rfl kw125 dX0_join_134 ?_
        refine z_iload 1 hG dX0_join_137 rfl ?_
        refine z_iload 0 hG dX0_join_139 rfl ?_
        refine z_iast hG (zfN1 hf_b) (zf1 hf_b) (by decide) (by omega) dX0_join_141 ?_
        refine z_iinc (lv' := [(6, .int (zI (c + 1))), (7, .int (zI (I b 0))), (5, .int (zI (to + (-1)))), (0, .ref (F.1 10)), (1, .ref (F.1 b)), (2, .int (zI line)), (3, .int (zI slots)), (4, .int (zI tokens))]) 7 hG dX0_join_142 rfl (by decide) rfl ?_
        refine z_goto (tgt := 27) hG dX0_join_145 (by decide) ?_
        refine z_perm (lv' := [(0, .ref (F.1 10)), (1, .ref (F.1 b)), (2, .int (zI line)), (3, .int (zI slots)), (4, .int (zI tokens)), (5, .int (zI (to + (-1)))), (6, .int (zI (c + 1)))]) [3, 4, 5, 6, 7, 2, 0] rfl ?_
        exact k6 c33 c47 c118
      · skip
        have q4 := g3 () c33 c118
        refine z_iinc (lv' := [(4, .int (zI (tokens + (-1)))), (7, .int (zI (I b 0))), (5, .int (zI (to + (-1)))), (0, .ref (F.1 10)), (1, .ref (F.1 b)), (2, .int (zI line)), (3, .int (zI slots)), (6, .int (zI c))]) 6 hG dX0_join_121 rfl (by decide) rfl ?_
        refine z_aload_n 3 hG dX0_join_124 rfl rfl ?_
        refine z_getR (t := 13) hG zcl0 (zlt hL (by decide)) (zl10 hL) 8 (by decide) rfl kw87 dX0_join_125 ?_
        refine z_iload 0 hG dX0_join_128 rfl ?_
        refine z_iload 1 hG dX0_join_130 rfl ?_
        refine z_iast hG (zlt hL (by decide)) (zl13 hL) (by decide) (by omega) dX0_join_132 ?_
        refine z_aload_n 4 hG dX0_join_133 rfl rfl ?_
        refine z_getRN (t := (b + 1)) hG zcl1 (zfN0 hf_b) (zf0 hf_b) 2 (by decide) rfl kw125 dX0_join_134 ?_
        refine z_iload 2 hG dX0_join_137 rfl ?_
        refine z_iload 1 hG dX0_join_139 rfl ?_
        refine z_iast hG (zfN1 hf_b) (zf1 hf_b) (by decide) (by omega) dX0_join_141 ?_
        refine z_iinc (lv' := [(6, .int (zI (c + 1))), (4, .int (zI (tokens + (-1)))), (7, .int (zI (I b 0))), (5, .int (zI (to + (-1)))), (0, .ref (F.1 10)), (1, .ref (F.1 b)), (2, .int (zI line)), (3, .int (zI slots))]) 7 hG dX0_join_142 rfl (by decide) rfl ?_
        refine z_goto (tgt := 27) hG dX0_join_145 (by decide) ?_
        refine z_perm (lv' := [(0, .ref (F.1 10)), (1, .ref (F.1 b)), (2, .int (zI line)), (3, .int (zI slots)), (4, .int (zI (tokens + (-1)))), (5, .int (zI (to + (-1)))), (6, .int (zI (c + 1)))]) [4, 5, 6, 7, 1, 3, 0] rfl ?_
        exact k7 c33 c47 c118

/-! join: what the steps from the end do to the store -/
def zju (J : zStore) (b : Nat) (id p : Int) : zStore := (zup (zup (zup (zup J (b + 3) id (if J (b + 3) id = J 9 p then J (b + 3) id else (-1))) (b + 4) id (min (J (b + 4) id) (J 8 p))) (b + 5) id (max (J (b + 5) id) (J 8 p))) (b + 6) id (J (b + 6) id + 1))
def zja (J : zStore) (b : Nat) (p : Int) : zStore := (zup (zup (zup (zup (zup (zup J b 0 ((J b 0) + 1)) (b + 2) (J b 0) (J 6 p)) (b + 3) (J b 0) (J 9 p)) (b + 4) (J b 0) (J 8 p)) (b + 5) (J b 0) (J 8 p)) (b + 6) (J b 0) 1)
def zjn (J : zStore) (b : Nat) (line w slots tokens to : Int) : zStore :=
  if w = 2 then zup (zup (zja J b (line * 30 + (tokens - 1))) 13 (tokens + (-1)) (J b 0)) (b + 1) (to + (-1)) (J b 0)
  else if w = 0 then zup (zup (zju J b (J (b + 1) (slots + (-1))) (line * 30 + (tokens - 1))) 13 (tokens + (-1)) (J (b + 1) (slots + (-1)))) (b + 1) (to + (-1)) (J (b + 1) (slots + (-1)))
  else zup J (b + 1) (to + (-1)) (J (b + 1) (slots + (-1)))
/-- the store after k of join's steps: w the steps, P the places, K their number -/
def zjJ (T : zStore) (b : Nat) (line : Int) (w : Nat → Int) (P : Nat → Nat × Nat) (K : Nat) : Nat → zStore
  | 0 => T
  | k + 1 => zjn (zjJ T b line w P K k) b line (w k) (P k).1 (P k).2 ((K : Int) - k)
theorem zjn_o {J : zStore} {b c : Nat} {line w slots tokens to j : Int} (h : c < b ∨ b + 6 < c) (h2 : c ≠ 13) : zjn J b line w slots tokens to c j = J c j := by
  unfold zjn zja zju
  have h0 : c ≠ b := by omega
  have h1 : c ≠ b + 1 := by omega
  have h3 : c ≠ b + 2 := by omega
  have h4 : c ≠ b + 3 := by omega
  have h5 : c ≠ b + 4 := by omega
  have h6 : c ≠ b + 5 := by omega
  have h7 : c ≠ b + 6 := by omega
  split
  · rw [zup_k h1, zup_k h2, zup_k h7, zup_k h6, zup_k h5, zup_k h4, zup_k h3, zup_k h0]
  · split
    · rw [zup_k h1, zup_k h2, zup_k h7, zup_k h6, zup_k h5, zup_k h4]
    · rw [zup_k h1]
theorem zjJ_o {T : zStore} {b c : Nat} {line : Int} {w : Nat → Int} {P : Nat → Nat × Nat} {K : Nat} {j : Int} (h : c < b ∨ b + 6 < c) (h2 : c ≠ 13) : ∀ k, zjJ T b line w P K k c j = T c j
  | 0 => rfl
  | k + 1 => by
    show zjn _ _ _ _ _ _ _ c j = _
    rw [zjn_o h h2, zjJ_o h h2 k]
theorem zjn_0 {J : zStore} {b : Nat} {line w slots tokens to : Int} (hb : 15 ≤ b) : zjn J b line w slots tokens to b 0 = J b 0 + if w = 2 then 1 else 0 := by
  unfold zjn zja zju
  split
  · rw [zup_k (by omega), zup_k (by omega), zup_k (by omega), zup_k (by omega), zup_k (by omega), zup_k (by omega), zup_k (by omega), zup_at]
  · split
    · rw [zup_k (by omega), zup_k (by omega), zup_k (by omega), zup_k (by omega), zup_k (by omega), zup_k (by omega), Int.add_zero]
    · rw [zup_k (by omega), Int.add_zero]
theorem zjJ_0 {T : zStore} {b : Nat} {line : Int} {w : Nat → Int} {P : Nat → Nat × Nat} {K : Nat} (hb : 15 ≤ b) : ∀ k, zjJ T b line w P K k b 0 = T b 0 + zfc w k
  | 0 => by simp [zjJ, zfc]
  | k + 1 => by
    show zjn _ _ _ _ _ _ _ b 0 = _
    rw [zjn_0 hb, zjJ_0 hb k]
    simp only [zfc]
    omega
theorem zjn_1 {J : zStore} {b : Nat} {line w slots tokens to : Int} (hb : 15 ≤ b) : zjn J b line w slots tokens to b 1 = J b 1 := by
  unfold zjn zja zju
  split
  · rw [zup_k (by omega), zup_k (by omega), zup_k (by omega), zup_k (by omega), zup_k (by omega), zup_k (by omega), zup_k (by omega), zup_i (by omega)]
  · split
    · rw [zup_k (by omega), zup_k (by omega), zup_k (by omega), zup_k (by omega), zup_k (by omega), zup_k (by omega)]
    · rw [zup_k (by omega)]
theorem zjJ_1 {T : zStore} {b : Nat} {line : Int} {w : Nat → Int} {P : Nat → Nat × Nat} {K : Nat} (hb : 15 ≤ b) : ∀ k, zjJ T b line w P K k b 1 = T b 1
  | 0 => rfl
  | k + 1 => by
    show zjn _ _ _ _ _ _ _ b 1 = _
    rw [zjn_1 hb, zjJ_1 hb k]
/-- the id that the k-th step back puts into the order -/
def zjid (J : zStore) (b : Nat) (w slots : Int) : Int := if w = 2 then J b 0 else J (b + 1) (slots + (-1))
theorem zjn_or {J : zStore} {b : Nat} {line w slots tokens to j : Int} (hb : 15 ≤ b) : zjn J b line w slots tokens to (b + 1) j = if j = to + (-1) then zjid J b w slots else J (b + 1) j := by
  unfold zjn zja zju zjid
  by_cases hj : j = to + (-1)
  · subst hj
    rw [if_pos rfl]
    split
    · rw [zup_at]
    · split
      · rw [zup_at]
      · rw [zup_at]
  · rw [if_neg hj]
    split
    · rw [zup_i hj, zup_k (by omega), zup_k (by omega), zup_k (by omega), zup_k (by omega), zup_k (by omega), zup_k (by omega), zup_k (by omega)]
    · split
      · rw [zup_i hj, zup_k (by omega), zup_k (by omega), zup_k (by omega), zup_k (by omega), zup_k (by omega)]
      · rw [zup_i hj]
theorem zjJ_or {T : zStore} {b : Nat} {line : Int} {w : Nat → Int} {P : Nat → Nat × Nat} {K : Nat} (hb : 15 ≤ b) : ∀ (k : Nat) (j : Int), j < (K : Int) - k → zjJ T b line w P K k (b + 1) j = T (b + 1) j
  | 0, j, _ => rfl
  | k + 1, j, h => by
    show zjn _ _ _ _ _ _ _ (b + 1) j = _
    rw [zjn_or hb, if_neg (by omega), zjJ_or hb k j (by omega)]
theorem zjn_us {J : zStore} {b : Nat} {line w slots tokens to id : Int} (hb : 15 ≤ b) : zjn J b line w slots tokens to (b + 6) id = if w = 2 then (if id = J b 0 then 1 else J (b + 6) id) else if w = 0 ∧ id = J (b + 1) (slots + (-1)) then J (b + 6) id + 1 else J (b + 6) id := by
  unfold zjn zja zju
  by_cases h2 : w = 2
  · rw [if_pos h2, if_pos h2, zup_k (by omega), zup_k (by omega)]
    by_cases hi : id = J b 0
    · rw [if_pos hi, hi, zup_at]
    · rw [if_neg hi, zup_i hi, zup_k (by omega), zup_k (by omega), zup_k (by omega), zup_k (by omega), zup_k (by omega)]
  · rw [if_neg h2, if_neg h2]
    by_cases h0 : w = 0
    · rw [if_pos h0, zup_k (by omega), zup_k (by omega)]
      by_cases hi : id = J (b + 1) (slots + (-1))
      · subst hi
        rw [zup_at, if_pos ⟨h0, rfl⟩]
      · rw [zup_i hi, zup_k (by omega), zup_k (by omega), zup_k (by omega), if_neg (fun q => hi q.2)]
    · rw [if_neg h0, if_neg (fun q => h0 q.1), zup_k (by omega)]
theorem zjJ_us {T : zStore} {b : Nat} {line : Int} {w : Nat → Int} {P : Nat → Nat × Nat} {K n : Nat} (hb : 15 ≤ b) (hn : T b 0 = n) (hu : ∀ id : Int, 0 ≤ id → id < n → 0 ≤ T (b + 6) id ∧ T (b + 6) id ≤ 12) : ∀ (k : Nat) (id : Int), 0 ≤ id → id < n → 0 ≤ zjJ T b line w P K k (b + 6) id ∧ zjJ T b line w P K k (b + 6) id ≤ 12 + k
  | 0, id, h0, h1 => by
    have := hu id h0 h1
    show 0 ≤ T (b + 6) id ∧ T (b + 6) id ≤ _
    omega
  | k + 1, id, h0, h1 => by
    have ih := zjJ_us (w := w) (P := P) (K := K) (line := line) hb hn hu k id h0 h1
    have hz := zjJ_0 (T := T) (line := line) (w := w) (P := P) (K := K) hb k
    have hf := zfc_bd w k
    show 0 ≤ zjn _ _ _ _ _ _ _ (b + 6) id ∧ zjn _ _ _ _ _ _ _ (b + 6) id ≤ _
    rw [zjn_us hb]
    split
    · rw [if_neg (by omega)]
      omega
    · split <;> omega
theorem zpos_i {s : Nat → Int} {f : Int} {q : Nat → Nat → Int} {n m : Nat} : ∀ k : Nat, k ≤ zlen s f q n m → ((zpos s f q n m k).1 : Int) + k = n + zfc (zway s f q n m) k
  | 0, _ => by simp [zpos, zfc]
  | k + 1, h => by
    have ih := zpos_i (s := s) (f := f) (q := q) (n := n) (m := m) k (by omega)
    have hp := zlen_pos (k := k) (by omega : k < zlen s f q n m)
    have hw : zway s f q n m k = zstep s f q (zpos s f q n m k).1 (zpos s f q n m k).2 := rfl
    rcases he : zpos s f q n m k with ⟨i, t⟩
    rw [he] at ih hp hw
    rw [zpos_s he]
    have h2 := zstep_2 (s := s) (f := f) (q := q) (i := i) (t := t) hp
    dsimp only at ih hp hw ⊢
    simp only [zfc]
    rw [hw]
    by_cases e2 : zstep s f q i t = 2
    · rw [if_pos e2, if_pos e2]
      omega
    · have h3 := h2.2.1 e2
      rw [if_neg e2, if_neg e2]
      omega
theorem zfc_mono (w : Nat → Int) (k : Nat) : ∀ d : Nat, zfc w k ≤ zfc w (k + d)
  | 0 => Int.le_refl _
  | d + 1 => by
    have := zfc_mono w k d
    show zfc w k ≤ zfc w (k + d) + _
    split <;> omega
/-- what join stands on: w the steps back, P the places, K their number, n slots -/
def zJo (T : zStore) (b : Nat) (w : Nat → Int) (P : Nat → Nat × Nat) (K n : Nat) : Prop := T 10 6 = K ∧ (∀ k : Nat, k < K → T 12 k = w k) ∧ T b 0 = n ∧ (K : Int) = n + zfc w K ∧ K ≤ 40 ∧ (∀ k : Nat, k ≤ K → ((P k).1 : Int) + k = n + zfc w k ∧ (P k).1 ≤ n ∧ (P k).2 ≤ 30) ∧
  (∀ k : Nat, k < K → P (k + 1) = (if w k = 2 then (P k).1 else (P k).1 - 1, if w k = 1 then (P k).2 else (P k).2 - 1) ∧ (w k = 2 → 0 < (P k).2) ∧ (w k ≠ 2 → 0 < (P k).1) ∧ (w k ≠ 1 → 0 < (P k).2) ∧ (w k = 0 ∨ w k = 1 ∨ w k = 2)) ∧ (∀ i : Nat, i < n → 0 ≤ T (b + 1) i ∧ T (b + 1) i < n) ∧ (∀ id : Int, 0 ≤ id → id < n → 0 ≤ T (b + 6) id ∧ T (b + 6) id ≤ 12) ∧ 0 ≤ T b 1 ∧ T b 1 ≤ 12
set_option maxHeartbeats 4000000 in
theorem zjn_rg {J : zStore} {b : Nat} {line w slots tokens to : Int} (hr : zRg J) (h0 : w = 2 → 0 ≤ J b 0 ∧ J b 0 ≤ 1000) (h1 : w ≠ 2 → 0 ≤ J (b + 1) (slots + (-1)) ∧ J (b + 1) (slots + (-1)) ≤ 1000 ∧ 0 ≤ J (b + 6) (J (b + 1) (slots + (-1))) ∧ J (b + 6) (J (b + 1) (slots + (-1))) ≤ 1000) : zRg (zjn J b line w slots tokens to) := by
  unfold zjn zja zju
  split
  · next h => 
    have := h0 h
    refine zRg_up (zRg_up (zRg_up (zRg_up (zRg_up (zRg_up (zRg_up (zRg_up hr ?_) ?_) ?_) ?_) ?_) ?_) ?_) ?_ <;> first | omega | exact hr _ _
  · next h =>
    have := h1 h
    split
    · refine zRg_up (zRg_up (zRg_up (zRg_up (zRg_up (zRg_up hr ?_) ?_) ?_) ?_) ?_) ?_
      · split
        · exact hr _ _
        · omega
      · have h2 := hr (b + 4) (J (b + 1) (slots + (-1)))
        have h3 := hr 8 (line * 30 + (tokens - 1))
        omega
      · have h2 := hr (b + 5) (J (b + 1) (slots + (-1)))
        have h3 := hr 8 (line * 30 + (tokens - 1))
        omega
      · omega
      · omega
      · omega
    · exact zRg_up hr (by omega)
theorem zjJ_id {T : zStore} {b : Nat} {line : Int} {w : Nat → Int} {P : Nat → Nat × Nat} {K n : Nat} (hb : 15 ≤ b) (h : zJo T b w P K n) {k : Nat} (hk : k < K) :
    (w k = 2 → 0 ≤ zjJ T b line w P K k b 0 ∧ zjJ T b line w P K k b 0 < 40) ∧ (w k ≠ 2 → 0 ≤ zjJ T b line w P K k (b + 1) ((P k).1 + (-1)) ∧ zjJ T b line w P K k (b + 1) ((P k).1 + (-1)) < n ∧ 0 ≤ zjJ T b line w P K k (b + 6) (zjJ T b line w P K k (b + 1) ((P k).1 + (-1))) ∧ zjJ T b line w P K k (b + 6) (zjJ T b line w P K k (b + 1) ((P k).1 + (-1))) ≤ 12 + k) := by
  obtain ⟨q1, q2, q3, q4, q5, q6, q7, q8, q9, q10⟩ := h
  have hz := zjJ_0 (T := T) (line := line) (w := w) (P := P) (K := K) hb k
  have hf := zfc_bd w k
  have hp := q6 k (by omega)
  constructor
  · intro e
    have h1 := zfc_mono w (k + 1) (K - (k + 1))
    rw [show k + 1 + (K - (k + 1)) = K by omega] at h1
    simp only [zfc, if_pos e] at h1
    omega
  · intro e
    have hi := (q7 k hk).2.2.1 e
    have h1 := zfc_mono w k (K - k)
    rw [show k + (K - k) = K by omega] at h1
    have ho := zjJ_or (T := T) (line := line) (w := w) (P := P) (K := K) hb k ((P k).1 + (-1)) (by omega)
    have h8 := q8 ((P k).1 - 1) (by omega)
    have e1 : T (b + 1) (((P k).1 : Int) + (-1)) = T (b + 1) (((P k).1 - 1 : Nat) : Int) := by congr 1; omega
    rw [ho, e1]
    have := zjJ_us (w := w) (P := P) (K := K) (line := line) hb q3 q9 k _ h8.1 h8.2
    omega
theorem zjJ_rg {T : zStore} {b : Nat} {line : Int} {w : Nat → Int} {P : Nat → Nat × Nat} {K n : Nat} (hb : 15 ≤ b) (hr : zRg T) (h : zJo T b w P K n) (hn : n ≤ 40) : ∀ k : Nat, k ≤ K → zRg (zjJ T b line w P K k)
  | 0, _ => hr
  | k + 1, hk => by
    have hi := zjJ_id (line := line) hb h (k := k) (by omega)
    have hK := h.2.2.2.2.1
    exact zjn_rg (zjJ_rg hb hr h hn k (by omega)) (fun e => by have := hi.1 e; omega) (fun e => by have := hi.2 e; omega)
set_option maxHeartbeats 4000000 in
theorem l_X0_join_27 {G : zCx} {F : zFr} {T : zStore} {post : Option Value → zStore → Prop} {b : Nat} {line : Int} {w : Nat → Int} {P : Nat → Nat × Nat} {K n : Nat} (hG : zOK G "LineLearner$Aligner" cX0_join 8) (hR : zRoom G rm_X0_join) (hE : zRetV G F cX0_join 0 0 post) (hL : zLay F) (hr : zRg T) (hf_b : zFm F b) (h1 : 0 ≤ line ∧ line < 12) (hn : n ≤ 40) (hJ : zJo T b w P K n)
    (hp : post none (zup (zjJ T b line w P K K) b 1 (T b 1 + 1))) :
    ∀ d k : Nat, k + d = K → zW G F 0 0 (zjJ T b line w P K k) [(0, .ref (F.1 10)), (1, .ref (F.1 b)), (2, .int (zI line)), (3, .int (zI (P k).1)), (4, .int (zI (P k).2)), (5, .int (zI ((K : Int) - k))), (6, .int (zI k))] [] 27 := by
  have hb := hf_b.1
  have hJ' := hJ
  obtain ⟨q1, q2, q3, q4, q5, q6, q7, q8, q9, q10, q11⟩ := hJ'
  intro d
  induction d with
  | zero =>
    intro k hk
    have hk1 : k = K := by omega
    subst hk1
    have hp1 := q6 k (by omega)
    have e6 : zjJ T b line w P k k 10 6 = k := by rw [zjJ_o (by omega) (by decide)]; exact q1
    have e1 : zjJ T b line w P k k b 1 = T b 1 := zjJ_1 hb k
    refine s_X0_join_27 hG hR hE hL (zjJ_rg hb hr hJ hn k (by omega)) hf_b h1 (by omega) (by omega) (by omega) (by rw [e6]; omega) (fun _ h => absurd h (by rw [e6]; omega)) (fun _ h => absurd h (by rw [e6]; omega)) (fun _ h => absurd h (by rw [e6]; omega)) (fun _ h => absurd h (by rw [e6]; omega)) (by rw [e1]; omega) (fun _ => ?_) (fun h => absurd h (by rw [e6]; omega)) (fun h => absurd h (by rw [e6]; omega)) (fun h => absurd h (by rw [e6]; omega)) (fun h => absurd h (by rw [e6]; omega)) (fun h => absurd h (by rw [e6]; omega)) (fun h => absurd h (by rw [e6]; omega))
    rw [e1]
    exact hp
  | succ d ih =>
    intro k hk
    have hkK : k < K := by omega
    have hp1 := q6 k (by omega)
    have hf := zfc_bd w k
    obtain ⟨hnx, g1, g2, g3, g4⟩ := q7 k hkK
    obtain ⟨hi1, hi2⟩ := zjJ_id (line := line) hb hJ hkK
    have e6 : zjJ T b line w P K k 10 6 = K := by rw [zjJ_o (by omega) (by decide)]; exact q1
    have e12 : zjJ T b line w P K k 12 k = w k := by rw [zjJ_o (by omega) (by decide)]; exact q2 k hkK
    have e1 : zjJ T b line w P K k b 1 = T b 1 := zjJ_1 hb k
    have ih1 := ih (k + 1) (by omega)
    have hto : ((K : Int) - k) + (-1) = (K : Int) - ((k + 1 : Nat) : Int) := by omega
    refine s_X0_join_27 hG hR hE hL (zjJ_rg hb hr hJ hn k (by omega)) hf_b h1 (by omega) (by omega) (by omega) (by rw [e6]; omega) (fun _ h => by omega) (fun _ _ h => by rw [e12] at h; have := hi1 h; have := g1 h; omega) (fun _ _ h => by rw [e12] at h; have := hi2 h; have := g2 h; omega) (fun _ _ h => by rw [e12] at h; have := g3 h; omega) (by rw [e1]; omega) (fun h => absurd h (by rw [e6]; omega)) (fun _ a2 a0 a1 => ?_) (fun _ a2 a0 a1 => ?_) (fun _ a2 a0 a1 => absurd (a0.symm.trans a1) (by decide)) (fun _ a2 a0 a1 => ?_) (fun _ a2 a1 => absurd (a2.symm.trans a1) (by decide)) (fun _ a2 a1 => ?_)
    · rw [e12] at a2 a0 a1
      rw [hnx, if_neg a2, if_pos a1] at ih1
      rw [hto, show ((P k).1 : Int) + (-1) = (((P k).1 - 1 : Nat) : Int) by have := g2 a2; omega]
      refine Eq.mp ?_ ih1
      congr 1
      show zjn _ _ _ _ _ _ _ = _
      unfold zjn
      rw [if_neg a2, if_neg a0, hto, show ((P k).1 : Int) + (-1) = (((P k).1 - 1 : Nat) : Int) by have := g2 a2; omega]
    · rw [e12] at a2 a0 a1
      omega
    · rw [e12] at a2 a0 a1
      rw [hnx, if_neg a2, if_neg a1] at ih1
      refine Eq.mp ?_ ih1
      rw [hto]
      congr 1
      · show zjn _ _ _ _ _ _ _ = _
        unfold zjn zju
        rw [if_neg a2, if_pos a0, hto]
      · rw [show ((P k).1 : Int) + (-1) = (((P k).1 - 1 : Nat) : Int) by have := g2 a2; omega, show ((P k).2 : Int) + (-1) = (((P k).2 - 1 : Nat) : Int) by have := g3 a1; omega]
        rfl
    · rw [e12] at a2 a1
      rw [hnx, if_pos a2, if_neg a1] at ih1
      refine Eq.mp ?_ ih1
      rw [hto]
      congr 1
      · show zjn _ _ _ _ _ _ _ = _
        unfold zjn zja
        rw [if_pos a2, hto]
      · rw [show ((P k).2 : Int) + (-1) = (((P k).2 - 1 : Nat) : Int) by have := g3 a1; omega]
        rfl
/-- the store after join -/
def zje (T : zStore) (b : Nat) (line : Int) (w : Nat → Int) (P : Nat → Nat × Nat) (K : Nat) : zStore := zup (zjJ T b line w P K K) b 1 (T b 1 + 1)
theorem c_X0_join {F : zFr} {T : zStore} {b : Nat} {line : Int} {w : Nat → Int} {P : Nat → Nat × Nat} {K n m : Nat} (hL : zLay F) (hr : zRg T) (hf_b : zFm F b) (h1 : 0 ≤ line ∧ line < 12) (hn : n ≤ 40) (hJ : zJo T b w P K n) (hm : T 4 line = m) (hP : P 0 = (n, m)) (h7 : T 10 7 = zfc w K) : ∀ (l : Launch) (D : va_G) (cs : Nat → ClassId), l.stackTraces = false → zMt l yX0_join cX0_join 8 none rm_X0_join D cs F T [.ref (F.1 10), .ref (F.1 b), .int (zI line)] (fun r I' => r = none ∧ I' = zje T b line w P K) := by
  intro l D cs hst
  refine zMt.ofV hst (by decide +kernel) (Nat.le_of_ble_eq_true rfl) fun G hG hR hE => ?_
  refine s_X0_join_0 hG hR hE hL hr hf_b h1 ?_
  have h := l_X0_join_27 hG hR hE hL hr hf_b h1 hn hJ ⟨rfl, rfl⟩ K 0 (by omega)
  rw [hP] at h
  rw [hJ.2.2.1, hm, h7, show (n : Int) + zfc w K = (K : Int) - ((0 : Nat) : Int) by have := hJ.2.2.2.1; omega]
  exact h
theorem zJo_of {I : zStore} {b : Nat} {line : Int} {n m : Nat} (hb : 15 ≤ b) (hA : zAl I b line n m) (hroom : zK I b line n m ≤ 40) (ho : ∀ i : Nat, i < n → 0 ≤ I (b + 1) i ∧ I (b + 1) i < n) (hu : ∀ id : Int, 0 ≤ id → id < n → 0 ≤ I (b + 6) id ∧ I (b + 6) id ≤ 12) (hj : 0 ≤ I b 1 ∧ I b 1 ≤ 12) : zJo (zAe I b line n m) b (zw_ I b line n m) (zP_ I b line n m) (zK I b line n m) n := by
  have hm := hA.2.2.2.2.1
  have hAe : ∀ {c : Nat} {j : Int}, c ≠ 11 → c ≠ 12 → c ≠ 10 → zAe I b line n m c j = I c j := fun h1 h2 h3 => by
    unfold zAe
    rw [zup_k h3, zAs_o h1 h2 (Or.inl h3)]
  refine ⟨zup_at _ _ _ _, fun k hk => ?_, by rw [hAe (by omega) (by omega) (by omega)]; exact hA.2.1, ?_, hroom, fun k hk => ?_, fun k hk => ?_, fun i hi => by rw [hAe (by omega) (by omega) (by omega)]; exact ho i hi, fun id h0 h1 => by rw [hAe (by omega) (by omega) (by omega)]; exact hu id h0 h1, by rw [hAe (by omega) (by omega) (by omega)]; exact hj.1, by rw [hAe (by omega) (by omega) (by omega)]; exact hj.2⟩
  · unfold zAe zAs
    rw [zup_k (by decide), zup_k (by decide)]
    exact zfl_in hk (by omega)
  · have h := zpos_i (s := zs_ I b) (f := I 10 3) (q := zq_ I b line) (n := n) (m := m) (zK I b line n m) (Nat.le_refl _)
    have he : zpos (zs_ I b) (I 10 3) (zq_ I b line) n m (zK I b line n m) = (0, 0) := zlen_end
    rw [he] at h
    dsimp only at h
    unfold zw_
    have h2 : zfc (fun k => zway (zs_ I b) (I 10 3) (zq_ I b line) n m k) (zK I b line n m) = zfc (zway (zs_ I b) (I 10 3) (zq_ I b line) n m) (zK I b line n m) := rfl
    omega
  · have h := zpos_i (s := zs_ I b) (f := I 10 3) (q := zq_ I b line) (n := n) (m := m) k hk
    have h2 := zpos_le (s := zs_ I b) (f := I 10 3) (q := zq_ I b line) (n := n) (m := m) k hk
    refine ⟨h, h2.2.1, ?_⟩
    have := h2.2.2
    show (zpos (zs_ I b) (I 10 3) (zq_ I b line) n m k).2 ≤ 30
    omega
  · have hp := zlen_pos (s := zs_ I b) (f := I 10 3) (q := zq_ I b line) (n := n) (m := m) (k := k) hk
    obtain ⟨g1, g2, g3, g4⟩ := zstep_2 (s := zs_ I b) (f := I 10 3) (q := zq_ I b line) hp
    exact ⟨zpos_s (by rfl), g1, g2, g3, g4⟩
