abbrev rm_X4_distinct : Room := { frames := 2, cells := 0, slots := 0, locals := 44 }
set_option maxRecDepth 100000 in
set_option maxHeartbeats 4000000 in
theorem s_X4_distinct_0 {G : zCx} {F : zFr} {I : zStore} {post : Option Value → zStore → Prop}{slot : Int} (hG : zOK G "LineLearnerModel" cX4_distinct 6) (hR : zRoom G rm_X4_distinct) (hE : zRetI G F cX4_distinct 0 0 post) (hL : zLayM F) (hr : zRg I) (hs : -2147483648 ≤ slot ∧ slot < 2147483648) (hf : 0 ≤ I 118 0 ∧ I 118 0 ≤ 40)
    (k1 : (0 ≤ slot ∧ slot < I 118 0) → zW G F 0 0 (zup I 110 0 0) [(0, .ref (F.1 110)), (1, .int (zI slot)), (2, .int (zI 0)), (3, .int (zI 0))] [] 23)
    (k2 : (¬ (0 ≤ slot ∧ slot < I 118 0)) → post (some (.int (zI 0))) (zup (zup I 110 0 0) 110 0 1)) :
    zW G F 0 0 I [(0, .ref (F.1 110)), (1, .int (zI slot))] [] 0 := by
  refine z_aload_n 0 hG dX4_distinct_0 rfl rfl ?_
  refine z_iconst 0 hG dX4_distinct_1 ?_
  refine z_putI hG zcl4 (zltM hL (by decide)) (zl110 hL) 0 (by decide) (ki := 0) rfl rfl kw677 rfl rfl dX4_distinct_2 ?_
  refine z_aload_n 0 hG dX4_distinct_5 rfl rfl ?_
  refine z_iload_n 1 hG dX4_distinct_6 rfl rfl ?_
  refine z_callV [.int (zI slot)] hG hR (c_X4_isSlot hL (zRg_up hr (by decide)) (by first | assumption | omega | ((try simp only [zup_k, zup_i, zup_at, ne_eq, not_false_eq_true, Nat.reduceEqDiff]); simp only [zup_at]; omega))) hd_X4_isSlot kw902 kw904 kp37 rfl (zltM hL (by decide)) (zl110 hL) (by decide) (by decide) (by decide) (by decide) rfl rfl (Nat.le_of_ble_eq_true rfl) dX4_distinct_7 (fun r I' hp => ?_)
  rw [hp.1, hp.2]
  show zW G F 0 0 (zup I 110 0 0) [(0, .ref (F.1 110)), (1, .int (zI slot))] [.int (zI (if 0 ≤ slot ∧ slot < I 118 0 then 1 else 0))] 10
  refine z_if_ne (tgt := 19) hG dX4_distinct_10 (by decide) (by omega) (fun c10 => ?_) (fun c10 => ?_)
  · skip
    have c10b := zif_y c10
    refine z_iconst 0 hG dX4_distinct_19 ?_
    refine z_istore_n (lv' := [(2, .int (zI 0)), (0, .ref (F.1 110)), (1, .int (zI slot))]) hG dX4_distinct_20 rfl (by decide) rfl ?_
    refine z_iconst 0 hG dX4_distinct_21 ?_
    refine z_istore_n (lv' := [(3, .int (zI 0)), (2, .int (zI 0)), (0, .ref (F.1 110)), (1, .int (zI slot))]) hG dX4_distinct_22 rfl (by decide) rfl ?_
    refine z_perm (lv' := [(0, .ref (F.1 110)), (1, .int (zI slot)), (2, .int (zI 0)), (3, .int (zI 0))]) [2, 3, 1, 0] rfl ?_
    exact k1 c10b
  · skip
    have c10b := zif_n c10
    refine z_aload_n 0 hG dX4_distinct_13 rfl rfl ?_
    refine z_iconst 1 hG dX4_distinct_14 ?_
    refine z_callV [.int (zI 1)] hG hR (c_X4_fail hL (zRg_up hr (by decide)) (by first | assumption | omega | ((try simp only [zup_k, zup_i, zup_at, ne_eq, not_false_eq_true, Nat.reduceEqDiff]); simp only [zup_at]; omega))) hd_X4_fail kw772 kw774 kp23 rfl (zltM hL (by decide)) (zl110 hL) (by decide) (by decide) (by decide) (by decide) rfl rfl (Nat.le_of_ble_eq_true rfl) dX4_distinct_15 (fun r I' hp => ?_)
    rw [hp.1, hp.2]
    show zW G F 0 0 (zup (zup I 110 0 0) 110 0 1) [(0, .ref (F.1 110)), (1, .int (zI slot))] [.int (zI 0)] 18
    exact hE _ _ _ _ dX4_distinct_18 (k2 c10b)

set_option maxRecDepth 100000 in
set_option maxHeartbeats 4000000 in
theorem s_X4_distinct_23 {G : zCx} {F : zFr} {I : zStore} {post : Option Value → zStore → Prop}{slot many line : Int} (hG : zOK G "LineLearnerModel" cX4_distinct 6) (hR : zRoom G rm_X4_distinct) (hE : zRetI G F cX4_distinct 0 0 post) (hL : zLayM F) (hr : zRg I) (h1 : 0 ≤ slot ∧ slot < 40) (hn : 0 ≤ I 110 3 ∧ I 110 3 ≤ 12) (h3 : 0 ≤ line ∧ line ≤ 12)
    (k1 : ((I 110 3) ≤ line) → post (some (.int (zI many))) I)
    (k2 : (line < (I 110 3)) → ((I 122 (12 * (40 * 0 + slot) + line)) = (-1)) → zW G F 0 0 I [(0, .ref (F.1 110)), (1, .int (zI slot)), (2, .int (zI many)), (3, .int (zI line)), (4, .int (zI 0)), (5, .int (zI 0))] [] 52)
    (k3 : (line < (I 110 3)) → ((I 122 (12 * (40 * 0 + slot) + line)) ≠ (-1)) → zW G F 0 0 I [(0, .ref (F.1 110)), (1, .int (zI slot)), (2, .int (zI many)), (3, .int (zI line)), (4, .int (zI 1)), (5, .int (zI 0))] [] 52) :
    zW G F 0 0 I [(0, .ref (F.1 110)), (1, .int (zI slot)), (2, .int (zI many)), (3, .int (zI line))] [] 23 := by
  refine z_iload_n 3 hG dX4_distinct_23 rfl rfl ?_
  refine z_aload_n 0 hG dX4_distinct_24 rfl rfl ?_
  refine z_getI (v := I 110 3) hG zcl4 (zltM hL (by decide)) (zl110 hL) 3 (by decide) rfl rfl rfl kw680 dX4_distinct_25 ?_
  refine z_icmp_ge (tgt := 140) hG dX4_distinct_28 (by decide) (by omega) (hr _ _) (fun c28 => ?_) (fun c28 => ?_)
  · skip
    refine z_iload_n 2 hG dX4_distinct_140 rfl rfl ?_
    exact hE _ _ _ _ dX4_distinct_141 (k1 c28)
  · skip
    refine z_aload_n 0 hG dX4_distinct_31 rfl rfl ?_
    refine z_iconst 0 hG dX4_distinct_32 ?_
    refine z_iload_n 1 hG dX4_distinct_33 rfl rfl ?_
    refine z_iload_n 3 hG dX4_distinct_34 rfl rfl ?_
    refine z_callV [.int (zI 0), .int (zI slot), .int (zI line)] hG hR (c_X4_tokenOf hL hr (by first | assumption | omega | ((try simp only [zup_k, zup_i, zup_at, ne_eq, not_false_eq_true, Nat.reduceEqDiff]); simp only [zup_at]; omega)) (by first | assumption | omega | ((try simp only [zup_k, zup_i, zup_at, ne_eq, not_false_eq_true, Nat.reduceEqDiff]); simp only [zup_at]; omega)) (by first | assumption | omega | ((try simp only [zup_k, zup_i, zup_at, ne_eq, not_false_eq_true, Nat.reduceEqDiff]); simp only [zup_at]; omega))) hd_X4_tokenOf kw844 kw846 kp31 rfl (zltM hL (by decide)) (zl110 hL) (by decide) (by decide) (by decide) (by decide) rfl rfl (Nat.le_of_ble_eq_true rfl) dX4_distinct_35 (fun r I' hp => ?_)
    rw [hp.1, hp.2]
    show zW G F 0 0 I [(0, .ref (F.1 110)), (1, .int (zI slot)), (2, .int (zI many)), (3, .int (zI line))] [.int (zI (I 122 (12 * (40 * 0 + slot) + line)))] 38
    refine z_iconst (-1) hG dX4_distinct_38 ?_
    refine z_icmp_eq (tgt := 46) hG dX4_distinct_39 (by decide) (hr _ _) (by decide) (fun c39 => ?_) (fun c39 => ?_)
    · skip
      refine z_iconst 0 hG dX4_distinct_46 ?_
      refine z_istore (lv' := [(4, .int (zI 0)), (0, .ref (F.1 110)), (1, .int (zI slot)), (2, .int (zI many)), (3, .int (zI line))]) hG dX4_distinct_47 (by decide) rfl ?_
      refine z_iconst 0 hG dX4_distinct_49 ?_
      refine z_istore (lv' := [(5, .int (zI 0)), (4, .int (zI 0)), (0, .ref (F.1 110)), (1, .int (zI slot)), (2, .int (zI many)), (3, .int (zI line))]) hG dX4_distinct_50 (by decide) rfl ?_
      refine z_perm (lv' := [(0, .ref (F.1 110)), (1, .int (zI slot)), (2, .int (zI many)), (3, .int (zI line)), (4, .int (zI 0)), (5, .int (zI 0))]) [2, 3, 4, 5, 1, 0] rfl ?_
      exact k2 c28 c39
    · skip
      refine z_iconst 1 hG dX4_distinct_42 ?_
      refine z_goto (tgt := 47) hG dX4_distinct_43 (by decide) ?_
      refine z_istore (lv' := [(4, .int (zI 1)), (0, .ref (F.1 110)), (1, .int (zI slot)), (2, .int (zI many)), (3, .int (zI line))]) hG dX4_distinct_47 (by decide) rfl ?_
      refine z_iconst 0 hG dX4_distinct_49 ?_
      refine z_istore (lv' := [(5, .int (zI 0)), (4, .int (zI 1)), (0, .ref (F.1 110)), (1, .int (zI slot)), (2, .int (zI many)), (3, .int (zI line))]) hG dX4_distinct_50 (by decide) rfl ?_
      refine z_perm (lv' := [(0, .ref (F.1 110)), (1, .int (zI slot)), (2, .int (zI many)), (3, .int (zI line)), (4, .int (zI 1)), (5, .int (zI 0))]) [2, 3, 4, 5, 1, 0] rfl ?_
      exact k3 c28 c39

set_option maxRecDepth 100000 in
set_option maxHeartbeats 4000000 in
theorem s_X4_distinct_52 {G : zCx} {F : zFr} {I : zStore} {post : Option Value → zStore → Prop}{slot many line is other : Int} (hG : zOK G "LineLearnerModel" cX4_distinct 6) (hR : zRoom G rm_X4_distinct) (hE : zRetI G F cX4_distinct 0 0 post) (hL : zLayM F) (hr : zRg I) (h1 : 0 ≤ slot ∧ slot < 40) (hn : 0 ≤ I 110 3 ∧ I 110 3 ≤ 12) (h3 : 0 ≤ line ∧ line < 12) (h4 : 0 ≤ is ∧ is ≤ 1) (h5 : 0 ≤ other ∧ other ≤ line) (hx : ∀ _u : Unit, is ≠ 0 → other < line → zmT I ((30 * line) + (I 122 (12 * (40 * 0 + slot) + line))) ∧ (I 122 (12 * (40 * 0 + slot) + other) ≠ (-1) → zmT I ((30 * other) + (I 122 (12 * (40 * 0 + slot) + other)))))
    (k1 : (line ≤ other) → (is = 0) → zW G F 0 0 I [(0, .ref (F.1 110)), (1, .int (zI slot)), (2, .int (zI (many + 0))), (3, .int (zI (line + 1)))] [] 23)
    (k2 : (line ≤ other) → (is ≠ 0) → zW G F 0 0 I [(0, .ref (F.1 110)), (1, .int (zI slot)), (2, .int (zI (many + 1))), (3, .int (zI (line + 1)))] [] 23)
    (k3 : (other < line) → (is = 0) → (is = 0) → zW G F 0 0 I [(0, .ref (F.1 110)), (1, .int (zI slot)), (2, .int (zI (many + 0))), (3, .int (zI (line + 1)))] [] 23)
    (k4 : (other < line) → (is = 0) → (is ≠ 0) → zW G F 0 0 I [(0, .ref (F.1 110)), (1, .int (zI slot)), (2, .int (zI (many + 1))), (3, .int (zI (line + 1)))] [] 23)
    (k5 : (other < line) → (is ≠ 0) → ((I 122 (12 * (40 * 0 + slot) + other)) = (-1)) → zW G F 0 0 I [(0, .ref (F.1 110)), (1, .int (zI slot)), (2, .int (zI many)), (3, .int (zI line)), (4, .int (zI is)), (5, .int (zI (other + 1)))] [] 52)
    (k6 : (other < line) → (is ≠ 0) → ((I 122 (12 * (40 * 0 + slot) + other)) ≠ (-1)) → ((zb (zmS (I 117) (I 116) (I 113) ((30 * line) + (I 122 (12 * (40 * 0 + slot) + line))) ((30 * other) + (I 122 (12 * (40 * 0 + slot) + other))))) ≠ 0) → zW G F 0 0 I [(0, .ref (F.1 110)), (1, .int (zI slot)), (2, .int (zI many)), (3, .int (zI line)), (4, .int (zI 0)), (5, .int (zI (other + 1)))] [] 52)
    (k7 : (other < line) → (is ≠ 0) → ((I 122 (12 * (40 * 0 + slot) + other)) ≠ (-1)) → ((zb (zmS (I 117) (I 116) (I 113) ((30 * line) + (I 122 (12 * (40 * 0 + slot) + line))) ((30 * other) + (I 122 (12 * (40 * 0 + slot) + other))))) = 0) → zW G F 0 0 I [(0, .ref (F.1 110)), (1, .int (zI slot)), (2, .int (zI many)), (3, .int (zI line)), (4, .int (zI 1)), (5, .int (zI (other + 1)))] [] 52) :
    zW G F 0 0 I [(0, .ref (F.1 110)), (1, .int (zI slot)), (2, .int (zI many)), (3, .int (zI line)), (4, .int (zI is)), (5, .int (zI other))] [] 52 := by
  refine z_iload 5 hG dX4_distinct_52 rfl ?_
  refine z_iload_n 3 hG dX4_distinct_54 rfl rfl ?_
  refine z_icmp_ge (tgt := 121) hG dX4_distinct_55 (by decide) (by omega) (by omega) (fun c55 => ?_) (fun c55 => ?_)
  · skip
    refine z_iload_n 2 hG dX4_distinct_121 rfl rfl ?_
    refine z_iload 4 hG dX4_distinct_122 rfl ?_
    refine z_if_eq (tgt := 131) hG dX4_distinct_124 (by decide) (by omega) (fun c124 => ?_) (fun c124 => ?_)
    · skip
      refine z_iconst 0 hG dX4_distinct_131 ?_
      refine z_iadd hG dX4_distinct_132 ?_
      refine z_istore_n (lv' := [(2, .int (zI (many + 0))), (0, .ref (F.1 110)), (1, .int (zI slot)), (3, .int (zI line)), (4, .int (zI is)), (5, .int (zI other))]) hG dX4_distinct_133 rfl (by decide) rfl ?_
      refine z_iinc (lv' := [(3, .int (zI (line + 1))), (2, .int (zI (many + 0))), (0, .ref (F.1 110)), (1, .int (zI slot)), (4, .int (zI is)), (5, .int (zI other))]) 3 hG dX4_distinct_134 rfl (by decide) rfl ?_
      refine z_goto (tgt := 23) hG dX4_distinct_137 (by decide) ?_
      refine z_perm (lv' := [(0, .ref (F.1 110)), (1, .int (zI slot)), (2, .int (zI (many + 0))), (3, .int (zI (line + 1)))]) [2, 3, 1, 0] rfl ?_
      exact k1 c55 c124
    · skip
      refine z_iconst 1 hG dX4_distinct_127 ?_
      refine z_goto (tgt := 132) hG dX4_distinct_128 (by decide) ?_
      refine z_iadd hG dX4_distinct_132 ?_
      refine z_istore_n (lv' := [(2, .int (zI (many + 1))), (0, .ref (F.1 110)), (1, .int (zI slot)), (3, .int (zI line)), (4, .int (zI is)), (5, .int (zI other))]) hG dX4_distinct_133 rfl (by decide) rfl ?_
      refine z_iinc (lv' := [(3, .int (zI (line + 1))), (2, .int (zI (many + 1))), (0, .ref (F.1 110)), (1, .int (zI slot)), (4, .int (zI is)), (5, .int (zI other))]) 3 hG dX4_distinct_134 rfl (by decide) rfl ?_
      refine z_goto (tgt := 23) hG dX4_distinct_137 (by decide) ?_
      refine z_perm (lv' := [(0, .ref (F.1 110)), (1, .int (zI slot)), (2, .int (zI (many + 1))), (3, .int (zI (line + 1)))]) [2, 3, 1, 0] rfl ?_
      exact k2 c55 c124
  · skip
    refine z_iload 4 hG dX4_distinct_58 rfl ?_
    refine z_if_eq (tgt := 121) hG dX4_distinct_60 (by decide) (by omega) (fun c60 => ?_) (fun c60 => ?_)
    · skip
      refine z_iload_n 2 hG dX4_distinct_121 rfl rfl ?_
      refine z_iload 4 hG dX4_distinct_122 rfl ?_
      refine z_if_eq (tgt := 131) hG dX4_distinct_124 (by decide) (by omega) (fun c124 => ?_) (fun c124 => ?_)
      · skip
        refine z_iconst 0 hG dX4_distinct_131 ?_
        refine z_iadd hG dX4_distinct_132 ?_
        refine z_istore_n (lv' := [(2, .int (zI (many + 0))), (0, .ref (F.1 110)), (1, .int (zI slot)), (3, .int (zI line)), (4, .int (zI is)), (5, .int (zI other))]) hG dX4_distinct_133 rfl (by decide) rfl ?_
        refine z_iinc (lv' := [(3, .int (zI (line + 1))), (2, .int (zI (many + 0))), (0, .ref (F.1 110)), (1, .int (zI slot)), (4, .int (zI is)), (5, .int (zI other))]) 3 hG dX4_distinct_134 rfl (by decide) rfl ?_
        refine z_goto (tgt := 23) hG dX4_distinct_137 (by decide) ?_
        refine z_perm (lv' := [(0, .ref (F.1 110)), (1, .int (zI slot)), (2, .int (zI (many + 0))), (3, .int (zI (line + 1)))]) [2, 3, 1, 0] rfl ?_
        exact k3 c55 c60 c124
      · skip
        refine z_iconst 1 hG dX4_distinct_127 ?_
        refine z_goto (tgt := 132) hG dX4_distinct_128 (by decide) ?_
        refine z_iadd hG dX4_distinct_132 ?_
        refine z_istore_n (lv' := [(2, .int (zI (many + 1))), (0, .ref (F.1 110)), (1, .int (zI slot)), (3, .int (zI line)), (4, .int (zI is)), (5, .int (zI other))]) hG dX4_distinct_133 rfl (by decide) rfl ?_
        refine z_iinc (lv' := [(3, .int (zI (line + 1))), (2, .int (zI (many + 1))), (0, .ref (F.1 110)), (1, .int (zI slot)), (4, .int (zI is)), (5, .int (zI other))]) 3 hG dX4_distinct_134 rfl (by decide) rfl ?_
        refine z_goto (tgt := 23) hG dX4_distinct_137 (by decide) ?_
        refine z_perm (lv' := [(0, .ref (F.1 110)), (1, .int (zI slot)), (2, .int (zI (many + 1))), (3, .int (zI (line + 1)))]) [2, 3, 1, 0] rfl ?_
        exact k4 c55 c60 c124
    · skip
      refine z_aload_n 0 hG dX4_distinct_63 rfl rfl ?_
      refine z_iconst 0 hG dX4_distinct_64 ?_
      refine z_iload_n 1 hG dX4_distinct_65 rfl rfl ?_
      refine z_iload 5 hG dX4_distinct_66 rfl ?_
      refine z_callV [.int (zI 0), .int (zI slot), .int (zI other)] hG hR (c_X4_tokenOf hL hr (by first | assumption | omega | ((try simp only [zup_k, zup_i, zup_at, ne_eq, not_false_eq_true, Nat.reduceEqDiff]); simp only [zup_at]; omega)) (by first | assumption | omega | ((try simp only [zup_k, zup_i, zup_at, ne_eq, not_false_eq_true, Nat.reduceEqDiff]); simp only [zup_at]; omega)) (by first | assumption | omega | ((try simp only [zup_k, zup_i, zup_at, ne_eq, not_false_eq_true, Nat.reduceEqDiff]); simp only [zup_at]; omega))) hd_X4_tokenOf kw844 kw846 kp31 rfl (zltM hL (by decide)) (zl110 hL) (by decide) (by decide) (by decide) (by decide) rfl rfl (Nat.le_of_ble_eq_true rfl) dX4_distinct_68 (fun r I' hp => ?_)
      rw [hp.1, hp.2]
      show zW G F 0 0 I [(0, .ref (F.1 110)), (1, .int (zI slot)), (2, .int (zI many)), (3, .int (zI line)), (4, .int (zI is)), (5, .int (zI other))] [.int (zI (I 122 (12 * (40 * 0 + slot) + other)))] 71
      refine z_iconst (-1) hG dX4_distinct_71 ?_
      refine z_icmp_eq (tgt := 115) hG dX4_distinct_72 (by decide) (hr _ _) (by decide) (fun c72 => ?_) (fun c72 => ?_)
      · skip
        refine z_iinc (lv' := [(5, .int (zI (other + 1))), (0, .ref (F.1 110)), (1, .int (zI slot)), (2, .int (zI many)), (3, .int (zI line)), (4, .int (zI is))]) 5 hG dX4_distinct_115 rfl (by decide) rfl ?_
        refine z_goto (tgt := 52) hG dX4_distinct_118 (by decide) ?_
        refine z_perm (lv' := [(0, .ref (F.1 110)), (1, .int (zI slot)), (2, .int (zI many)), (3, .int (zI line)), (4, .int (zI is)), (5, .int (zI (other + 1)))]) [1, 2, 3, 4, 5, 0] rfl ?_
        exact k5 c55 c60 c72
      · skip
        refine z_aload_n 0 hG dX4_distinct_75 rfl rfl ?_
        refine z_bipush 30 hG dX4_distinct_76 (by decide) ?_
        refine z_iload_n 3 hG dX4_distinct_78 rfl rfl ?_
        refine z_imul hG dX4_distinct_79 ?_
        refine z_aload_n 0 hG dX4_distinct_80 rfl rfl ?_
        refine z_iconst 0 hG dX4_distinct_81 ?_
        refine z_iload_n 1 hG dX4_distinct_82 rfl rfl ?_
        refine z_iload_n 3 hG dX4_distinct_83 rfl rfl ?_
        refine z_callV [.int (zI 0), .int (zI slot), .int (zI line)] hG hR (c_X4_tokenOf hL hr (by first | assumption | omega | ((try simp only [zup_k, zup_i, zup_at, ne_eq, not_false_eq_true, Nat.reduceEqDiff]); simp only [zup_at]; omega)) (by first | assumption | omega | ((try simp only [zup_k, zup_i, zup_at, ne_eq, not_false_eq_true, Nat.reduceEqDiff]); simp only [zup_at]; omega)) (by first | assumption | omega | ((try simp only [zup_k, zup_i, zup_at, ne_eq, not_false_eq_true, Nat.reduceEqDiff]); simp only [zup_at]; omega))) hd_X4_tokenOf kw844 kw846 kp31 rfl (zltM hL (by decide)) (zl110 hL) (by decide) (by decide) (by decide) (by decide) rfl rfl (Nat.le_of_ble_eq_true rfl) dX4_distinct_84 (fun r I' hp => ?_)
        rw [hp.1, hp.2]
        show zW G F 0 0 I [(0, .ref (F.1 110)), (1, .int (zI slot)), (2, .int (zI many)), (3, .int (zI line)), (4, .int (zI is)), (5, .int (zI other))] [.int (zI (I 122 (12 * (40 * 0 + slot) + line))), .int (zI (30 * line)), .ref (F.1 110)] 87
        refine z_iadd hG dX4_distinct_87 ?_
        refine z_bipush 30 hG dX4_distinct_88 (by decide) ?_
        refine z_iload 5 hG dX4_distinct_90 rfl ?_
        refine z_imul hG dX4_distinct_92 ?_
        refine z_aload_n 0 hG dX4_distinct_93 rfl rfl ?_
        refine z_iconst 0 hG dX4_distinct_94 ?_
        refine z_iload_n 1 hG dX4_distinct_95 rfl rfl ?_
        refine z_iload 5 hG dX4_distinct_96 rfl ?_
        refine z_callV [.int (zI 0), .int (zI slot), .int (zI other)] hG hR (c_X4_tokenOf hL hr (by first | assumption | omega | ((try simp only [zup_k, zup_i, zup_at, ne_eq, not_false_eq_true, Nat.reduceEqDiff]); simp only [zup_at]; omega)) (by first | assumption | omega | ((try simp only [zup_k, zup_i, zup_at, ne_eq, not_false_eq_true, Nat.reduceEqDiff]); simp only [zup_at]; omega)) (by first | assumption | omega | ((try simp only [zup_k, zup_i, zup_at, ne_eq, not_false_eq_true, Nat.reduceEqDiff]); simp only [zup_at]; omega))) hd_X4_tokenOf kw844 kw846 kp31 rfl (zltM hL (by decide)) (zl110 hL) (by decide) (by decide) (by decide) (by decide) rfl rfl (Nat.le_of_ble_eq_true rfl) dX4_distinct_98 (fun r I' hp => ?_)
        rw [hp.1, hp.2]
        show zW G F 0 0 I [(0, .ref (F.1 110)), (1, .int (zI slot)), (2, .int (zI many)), (3, .int (zI line)), (4, .int (zI is)), (5, .int (zI other))] [.int (zI (I 122 (12 * (40 * 0 + slot) + other))), .int (zI (30 * other)), .int (zI ((30 * line) + (I 122 (12 * (40 * 0 + slot) + line)))), .ref (F.1 110)] 101
        refine z_iadd hG dX4_distinct_101 ?_
        refine z_callV [.int (zI ((30 * line) + (I 122 (12 * (40 * 0 + slot) + line)))), .int (zI ((30 * other) + (I 122 (12 * (40 * 0 + slot) + other))))] hG hR (c_X4_areSame hL hr (hx () c60 c55).1 ((hx () c60 c55).2 c72)) hd_X4_areSame kw807 kw809 kp26 rfl (zltM hL (by decide)) (zl110 hL) (by decide) (by decide) (by decide) (by decide) rfl rfl (Nat.le_of_ble_eq_true rfl) dX4_distinct_102 (fun r I' hp => ?_)
        rw [hp.1, hp.2]
        have ha102_0 : 0 ≤ (zb (zmS (I 117) (I 116) (I 113) ((30 * line) + (I 122 (12 * (40 * 0 + slot) + line))) ((30 * other) + (I 122 (12 * (40 * 0 + slot) + other))))) ∧ (zb (zmS (I 117) (I 116) (I 113) ((30 * line) + (I 122 (12 * (40 * 0 + slot) + line))) ((30 * other) + (I 122 (12 * (40 * 0 + slot) + other))))) ≤ 1 := zb_le _
        show zW G F 0 0 I [(0, .ref (F.1 110)), (1, .int (zI slot)), (2, .int (zI many)), (3, .int (zI line)), (4, .int (zI is)), (5, .int (zI other))] [.int (zI (zb (zmS (I 117) (I 116) (I 113) ((30 * line) + (I 122 (12 * (40 * 0 + slot) + line))) ((30 * other) + (I 122 (12 * (40 * 0 + slot) + other))))))] 105
        refine z_if_ne (tgt := 112) hG dX4_distinct_105 (by decide) (by omega) (fun c105 => ?_) (fun c105 => ?_)
        · skip
          refine z_iconst 0 hG dX4_distinct_112 ?_
          refine z_istore (lv' := [(4, .int (zI 0)), (0, .ref (F.1 110)), (1, .int (zI slot)), (2, .int (zI many)), (3, .int (zI line)), (5, .int (zI other))]) hG dX4_distinct_113 (by decide) rfl ?_
          refine z_iinc (lv' := [(5, .int (zI (other + 1))), (4, .int (zI 0)), (0, .ref (F.1 110)), (1, .int (zI slot)), (2, .int (zI many)), (3, .int (zI line))]) 5 hG dX4_distinct_115 rfl (by decide) rfl ?_
          refine z_goto (tgt := 52) hG dX4_distinct_118 (by decide) ?_
          refine z_perm (lv' := [(0, .ref (F.1 110)), (1, .int (zI slot)), (2, .int (zI many)), (3, .int (zI line)), (4, .int (zI 0)), (5, .int (zI (other + 1)))]) [2, 3, 4, 5, 1, 0] rfl ?_
          exact k6 c55 c60 c72 c105
        · skip
          refine z_iconst 1 hG dX4_distinct_108 ?_
          refine z_goto (tgt := 113) hG dX4_distinct_109 (by decide) ?_
          refine z_istore (lv' := [(4, .int (zI 1)), (0, .ref (F.1 110)), (1, .int (zI slot)), (2, .int (zI many)), (3, .int (zI line)), (5, .int (zI other))]) hG dX4_distinct_113 (by decide) rfl ?_
          refine z_iinc (lv' := [(5, .int (zI (other + 1))), (4, .int (zI 1)), (0, .ref (F.1 110)), (1, .int (zI slot)), (2, .int (zI many)), (3, .int (zI line))]) 5 hG dX4_distinct_115 rfl (by decide) rfl ?_
          refine z_goto (tgt := 52) hG dX4_distinct_118 (by decide) ?_
          refine z_perm (lv' := [(0, .ref (F.1 110)), (1, .int (zI slot)), (2, .int (zI many)), (3, .int (zI line)), (4, .int (zI 1)), (5, .int (zI (other + 1)))]) [2, 3, 4, 5, 1, 0] rfl ?_
          exact k7 c55 c60 c72 c105

/-- whether the line's token is another text than those of the first o lines in the slot; how many such lines there are -/
def zmd1 (I : zStore) (slot : Int) (l : Nat) : Nat → Bool
  | 0 => decide (I 122 (12 * (40 * 0 + slot) + l) ≠ (-1))
  | o + 1 => zmd1 I slot l o && (decide (I 122 (12 * (40 * 0 + slot) + o) = (-1)) || !zmS (I 117) (I 116) (I 113) (30 * l + I 122 (12 * (40 * 0 + slot) + l)) (30 * o + I 122 (12 * (40 * 0 + slot) + o)))
def zmd (I : zStore) (slot : Int) : Nat → Int
  | 0 => 0
  | l + 1 => zmd I slot l + zb (zmd1 I slot l l)
theorem zmd1_no {I : zStore} {slot : Int} {l o : Nat} (h : zmd1 I slot l o = false) : ∀ d : Nat, zmd1 I slot l (o + d) = false
  | 0 => h
  | d + 1 => by
    rw [← Nat.add_assoc]
    simp only [zmd1]
    rw [zmd1_no h d]
    rfl
theorem zmd1_0 {I : zStore} {slot : Int} {l : Nat} : ∀ o : Nat, zmd1 I slot l o = true → I 122 (12 * (40 * 0 + slot) + l) ≠ (-1)
  | 0, h => of_decide_eq_true h
  | o + 1, h => by
    simp only [zmd1, Bool.and_eq_true] at h
    exact zmd1_0 o h.1
set_option maxHeartbeats 8000000 in
theorem c_X4_distinct {F : zFr} {I : zStore} {slot : Int} (hL : zLayM F) (hr : zRg I) (hs : -2147483648 ≤ slot ∧ slot < 2147483648) (hf : 0 ≤ I 118 0 ∧ I 118 0 ≤ 40) (hn : 0 ≤ I 110 3 ∧ I 110 3 ≤ 12) (hu : 0 ≤ slot → slot < I 118 0 → ∀ l : Int, 0 ≤ l → l < I 110 3 → I 122 (12 * (40 * 0 + slot) + l) ≠ (-1) → zmT I (30 * l + I 122 (12 * (40 * 0 + slot) + l))) : ∀ (l : Launch) (D : va_G) (cs : Nat → ClassId), l.stackTraces = false → zMt l yX4_distinct cX4_distinct 6 (some .int) rm_X4_distinct D cs F I [.ref (F.1 110), .int (zI slot)] (fun r I' => r = some (.int (zI (if 0 ≤ slot ∧ slot < I 118 0 then zmd I slot (I 110 3).toNat else 0))) ∧ I' = zup I 110 0 (if 0 ≤ slot ∧ slot < I 118 0 then 0 else 1)) := by
  intro l D cs hst
  refine zMt.ofI hst (by decide +kernel) (Nat.le_of_ble_eq_true rfl) fun G hG hR hE => ?_
  by_cases hok : ¬ (0 ≤ slot ∧ slot < I 118 0)
  · rw [if_neg hok, if_neg hok] at hE
    exact s_X4_distinct_0 hG hR hE hL hr hs hf (fun q => absurd q hok) (fun _ => ⟨rfl, zup_up _ _ _ _ _⟩)
  · have hok := Decidable.not_not.mp hok
    rw [if_pos hok, if_pos hok] at hE
    have hu := hu hok.1 hok.2
    have hrJ : zRg (zup I 110 0 0) := zRg_up hr (by decide)
    have outer : ∀ (d k : Nat), (k : Int) + d = I 110 3 → zW G F 0 0 (zup I 110 0 0) [(0, .ref (F.1 110)), (1, .int (zI slot)), (2, .int (zI (zmd I slot k))), (3, .int (zI k))] [] 23 := by
      intro d
      induction d with
      | zero =>
        intro k hk
        refine s_X4_distinct_23 hG hR hE hL hrJ (by omega) hn (by omega) (fun _ => ⟨?_, rfl⟩) (fun q => absurd (show (k : Int) < I 110 3 from q) (by omega)) (fun q => absurd (show (k : Int) < I 110 3 from q) (by omega))
        rw [show (I 110 3).toNat = k by omega]
      | succ d ih =>
        intro k hk
        have h := ih (k + 1) (by omega)
        simp only [zmd] at h
        have inner : ∀ (e o : Nat), o + e = k → zW G F 0 0 (zup I 110 0 0) [(0, .ref (F.1 110)), (1, .int (zI slot)), (2, .int (zI (zmd I slot k))), (3, .int (zI k)), (4, .int (zI (zb (zmd1 I slot k o)))), (5, .int (zI o))] [] 52 := by
          intro e
          induction e with
          | zero =>
            intro o ho
            have e9 : o = k := by omega
            subst e9
            refine s_X4_distinct_52 hG hR hE hL hrJ (by omega) hn (by omega) (zb_le _) (by omega) (fun _ _ q => absurd q (by omega)) (fun _ q => ?_) (fun _ q => ?_) (fun q => absurd q (by omega)) (fun q => absurd q (by omega)) (fun q => absurd q (by omega)) (fun q => absurd q (by omega)) (fun q => absurd q (by omega))
            · rw [zb0 q] at h
              exact h
            · rw [zb1_ q] at h
              exact h
          | succ e ih2 =>
            intro o ho
            have h2 := ih2 (o + 1) (by omega)
            simp only [zmd1] at h2
            refine s_X4_distinct_52 hG hR hE hL hrJ (by omega) hn (by omega) (zb_le _) (by omega) (fun _ q1 q2 => ⟨hu k (by omega) (by omega) (zmd1_0 o (zb1_ q1)), fun q3 => hu o (by omega) (by omega) q3⟩) (fun q => absurd q (by omega)) (fun q => absurd q (by omega)) (fun _ q => ?_) (fun _ q => ?_) (fun _ q q2 => ?_) (fun _ q q2 q3 => ?_) (fun _ q q2 q3 => ?_)
            · have h3 := zmd1_no (zb0 q) (k - o)
              rw [show o + (k - o) = k by omega] at h3
              rw [h3] at h
              exact fun _ => h
            · exact fun q2 => absurd q q2
            · rw [zb1_ q, decide_eq_true (show I 122 (12 * (40 * 0 + slot) + o) = (-1) from q2)] at h2
              rw [zb1_ q]
              exact h2
            · have h3 : zmS (I 117) (I 116) (I 113) (30 * k + I 122 (12 * (40 * 0 + slot) + k)) (30 * o + I 122 (12 * (40 * 0 + slot) + o)) = true := zb1_ q3
              rw [zb1_ q, decide_eq_false (show ¬ I 122 (12 * (40 * 0 + slot) + o) = (-1) from q2), h3] at h2
              exact h2
            · have h3 : zmS (I 117) (I 116) (I 113) (30 * k + I 122 (12 * (40 * 0 + slot) + k)) (30 * o + I 122 (12 * (40 * 0 + slot) + o)) = false := zb0 q3
              rw [zb1_ q, decide_eq_false (show ¬ I 122 (12 * (40 * 0 + slot) + o) = (-1) from q2), h3] at h2
              exact h2
        have h0 := inner k 0 (by omega)
        refine s_X4_distinct_23 hG hR hE hL hrJ (by omega) hn (by omega) (fun q => absurd (show I 110 3 ≤ (k : Int) from q) (by omega)) (fun _ q => ?_) (fun _ q => ?_)
        · have e0 : zmd1 I slot k 0 = false := decide_eq_false (fun p => p q)
          rw [e0] at h0
          exact h0
        · have e0 : zmd1 I slot k 0 = true := decide_eq_true q
          rw [e0] at h0
          exact h0
    exact s_X4_distinct_0 hG hR hE hL hr hs hf (fun _ => outer (I 110 3).toNat 0 (by omega)) (fun q => absurd hok q)
abbrev rm_X4_isRising : Room := { frames := 3, cells := 0, slots := 0, locals := 70 }
set_option maxRecDepth 100000 in
set_option maxHeartbeats 4000000 in
theorem s_X4_isRising_0 {G : zCx} {F : zFr} {I : zStore} {post : Option Value → zStore → Prop}{slot : Int} (hG : zOK G "LineLearnerModel" cX4_isRising 5) (hR : zRoom G rm_X4_isRising) (hE : zRetZ G F cX4_isRising 0 0 post) (hL : zLayM F) (hr : zRg I) (hs : -2147483648 ≤ slot ∧ slot < 2147483648) (hf : 0 ≤ I 118 0 ∧ I 118 0 ≤ 40) (hn : 0 ≤ I 110 3 ∧ I 110 3 ≤ 12)
    (k1 : (¬ (0 ≤ slot ∧ slot < I 118 0)) → ((1 : Int) ≠ 0) → post (some (.int (zI 0))) (zup I 110 0 1))
    (k2 : (0 ≤ slot ∧ slot < I 118 0) → ((0 : Int) = 0) → ((I 120 slot) ≠ 1) → post (some (.int (zI 0))) (zup I 110 0 0))
    (k3 : (0 ≤ slot ∧ slot < I 118 0) → ((0 : Int) = 0) → ((I 120 slot) = 1) → (2 ≤ (zmu (I 122) 0 slot (I 110 3).toNat)) → zW G F 0 0 (zup I 110 0 0) [(0, .ref (F.1 110)), (1, .int (zI slot)), (2, .int (zI (-1))), (3, .int (zI 1)), (4, .int (zI 0))] [] 53)
    (k4 : (0 ≤ slot ∧ slot < I 118 0) → ((0 : Int) = 0) → ((I 120 slot) = 1) → ((zmu (I 122) 0 slot (I 110 3).toNat) < 2) → post (some (.int (zI 0))) (zup I 110 0 0)) :
    zW G F 0 0 I [(0, .ref (F.1 110)), (1, .int (zI slot))] [] 0 := by
  refine z_aload_n 0 hG dX4_isRising_0 rfl rfl ?_
  refine z_aload_n 0 hG dX4_isRising_1 rfl rfl ?_
  refine z_iload_n 1 hG dX4_isRising_2 rfl rfl ?_
  refine z_callV [.int (zI slot)] hG hR (c_X4_isSlot hL hr (by first | assumption | omega | ((try simp only [zup_k, zup_i, zup_at, ne_eq, not_false_eq_true, Nat.reduceEqDiff]); simp only [zup_at]; omega))) hd_X4_isSlot kw902 kw904 kp37 rfl (zltM hL (by decide)) (zl110 hL) (by decide) (by decide) (by decide) (by decide) rfl rfl (Nat.le_of_ble_eq_true rfl) dX4_isRising_3 (fun r I' hp => ?_)
  rw [hp.1, hp.2]
  show zW G F 0 0 I [(0, .ref (F.1 110)), (1, .int (zI slot))] [.int (zI (if 0 ≤ slot ∧ slot < I 118 0 then 1 else 0)), .ref (F.1 110)] 6
  refine z_if_eq (tgt := 13) hG dX4_isRising_6 (by decide) (by omega) (fun c6 => ?_) (fun c6 => ?_)
  · skip
    have c6b := zif_n c6
    refine z_iconst 1 hG dX4_isRising_13 ?_
    refine z_putI hG zcl4 (zltM hL (by decide)) (zl110 hL) 0 (by decide) (ki := 0) rfl rfl kw677 rfl rfl dX4_isRising_14 ?_
    refine z_aload_n 0 hG dX4_isRising_17 rfl rfl ?_
    refine z_getI (v := 1) hG zcl4 (zltM hL (by decide)) (zl110 hL) 0 (by decide) rfl rfl (zup_at _ _ _ _) kw677 dX4_isRising_18 ?_
    refine z_if_ne (tgt := 44) hG dX4_isRising_21 (by decide) (by decide) (fun c21 => ?_) (fun c21 => ?_)
    · skip
      refine z_iconst 0 hG dX4_isRising_44 ?_
      exact hE _ _ _ _ dX4_isRising_45 (by first | decide | omega) (k1 c6b c21)
    · skip
      exact absurd c21 (by decide)
  · skip
    have c6b := zif_y c6
    refine z_iconst 0 hG dX4_isRising_9 ?_
    refine z_goto (tgt := 14) hG dX4_isRising_10 (by decide) ?_
    refine z_putI hG zcl4 (zltM hL (by decide)) (zl110 hL) 0 (by decide) (ki := 0) rfl rfl kw677 rfl rfl dX4_isRising_14 ?_
    refine z_aload_n 0 hG dX4_isRising_17 rfl rfl ?_
    refine z_getI (v := 0) hG zcl4 (zltM hL (by decide)) (zl110 hL) 0 (by decide) rfl rfl (zup_at _ _ _ _) kw677 dX4_isRising_18 ?_
    refine z_if_ne (tgt := 44) hG dX4_isRising_21 (by decide) (by decide) (fun c21 => ?_) (fun c21 => ?_)
    · skip
      exact absurd c21 (by decide)
    · skip
      refine z_aload_n 0 hG dX4_isRising_24 rfl rfl ?_
      refine z_getR (t := 120) hG zcl4 (zltM hL (by decide)) (zl110 hL) 15 (by decide) rfl kw692 dX4_isRising_25 ?_
      refine z_iload_n 1 hG dX4_isRising_28 rfl rfl ?_
      refine z_iald (v := I 120 slot) hG (zltM hL (by decide)) (zl120 hL) (by decide) (by omega) (zup_k (by decide)) dX4_isRising_29 ?_
      refine z_iconst 1 hG dX4_isRising_30 ?_
      refine z_icmp_ne (tgt := 44) hG dX4_isRising_31 (by decide) (hr _ _) (by decide) (fun c31 => ?_) (fun c31 => ?_)
      · skip
        refine z_iconst 0 hG dX4_isRising_44 ?_
        exact hE _ _ _ _ dX4_isRising_45 (by first | decide | omega) (k2 c6b c21 c31)
      · skip
        refine z_aload_n 0 hG dX4_isRising_34 rfl rfl ?_
        refine z_iconst 0 hG dX4_isRising_35 ?_
        refine z_iload_n 1 hG dX4_isRising_36 rfl rfl ?_
        refine z_callV [.int (zI 0), .int (zI slot)] hG hR (c_X4_usesOf hL (zRg_up hr (by decide)) (by first | assumption | omega | ((try simp only [zup_k, zup_i, zup_at, ne_eq, not_false_eq_true, Nat.reduceEqDiff]); simp only [zup_at]; omega)) (by first | assumption | omega | ((try simp only [zup_k, zup_i, zup_at, ne_eq, not_false_eq_true, Nat.reduceEqDiff]); simp only [zup_at]; omega)) (by first | assumption | omega | ((try simp only [zup_k, zup_i, zup_at, ne_eq, not_false_eq_true, Nat.reduceEqDiff]); simp only [zup_at]; omega))) hd_X4_usesOf kw840 kw842 kp30 rfl (zltM hL (by decide)) (zl110 hL) (by decide) (by decide) (by decide) (by decide) rfl rfl (Nat.le_of_ble_eq_true rfl) dX4_isRising_37 (fun r I' hp => ?_)
        rw [hp.1, hp.2]
        have ha37_0 : 0 ≤ (zmu (I 122) 0 slot (I 110 3).toNat) ∧ (zmu (I 122) 0 slot (I 110 3).toNat) ≤ (I 110 3).toNat := zmu_bd _ _ _ _
        show zW G F 0 0 (zup I 110 0 0) [(0, .ref (F.1 110)), (1, .int (zI slot))] [.int (zI (zmu (I 122) 0 slot (I 110 3).toNat))] 40
        refine z_iconst 2 hG dX4_isRising_40 ?_
        refine z_icmp_ge (tgt := 46) hG dX4_isRising_41 (by decide) (by omega) (by decide) (fun c41 => ?_) (fun c41 => ?_)
        · skip
          refine z_iconst (-1) hG dX4_isRising_46 ?_
          refine z_istore_n (lv' := [(2, .int (zI (-1))), (0, .ref (F.1 110)), (1, .int (zI slot))]) hG dX4_isRising_47 rfl (by decide) rfl ?_
          refine z_iconst 1 hG dX4_isRising_48 ?_
          refine z_istore_n (lv' := [(3, .int (zI 1)), (2, .int (zI (-1))), (0, .ref (F.1 110)), (1, .int (zI slot))]) hG dX4_isRising_49 rfl (by decide) rfl ?_
          refine z_iconst 0 hG dX4_isRising_50 ?_
          refine z_istore (lv' := [(4, .int (zI 0)), (3, .int (zI 1)), (2, .int (zI (-1))), (0, .ref (F.1 110)), (1, .int (zI slot))]) hG dX4_isRising_51 (by decide) rfl ?_
          refine z_perm (lv' := [(0, .ref (F.1 110)), (1, .int (zI slot)), (2, .int (zI (-1))), (3, .int (zI 1)), (4, .int (zI 0))]) [3, 4, 2, 1, 0] rfl ?_
          exact k3 c6b c21 c31 c41
        · skip
          refine z_iconst 0 hG dX4_isRising_44 ?_
          exact hE _ _ _ _ dX4_isRising_45 (by first | decide | omega) (k4 c6b c21 c31 c41)

set_option maxRecDepth 100000 in
set_option maxHeartbeats 4000000 in
theorem s_X4_isRising_53 {G : zCx} {F : zFr} {I : zStore} {post : Option Value → zStore → Prop}{slot before is line : Int} {v85 : Int} (hG : zOK G "LineLearnerModel" cX4_isRising 5) (hR : zRoom G rm_X4_isRising) (hE : zRetZ G F cX4_isRising 0 0 post) (hL : zLayM F) (hr : zRg I) (h1 : 0 ≤ slot ∧ slot < 40) (hn : 0 ≤ I 110 3 ∧ I 110 3 ≤ 12) (h3 : 0 ≤ line ∧ line ≤ 12) (h4 : -2147483648 ≤ before ∧ before < 2147483648) (h5 : 0 ≤ is ∧ is ≤ 1)
    (k1 : ((I 110 3) ≤ line) → post (some (.int (zI is))) I)
    (k2 : (line < (I 110 3)) → ((I 122 (12 * (40 * 0 + slot) + line)) ≠ (-1)) → (is = 0) → zW G F 0 0 I [(0, .ref (F.1 110)), (1, .int (zI slot)), (2, .int (zI before)), (3, .int (zI 0)), (4, .int (zI line))] [] 98)
    (kc85 : (line < (I 110 3)) → ((I 122 (12 * (40 * 0 + slot) + line)) ≠ (-1)) → (is ≠ 0) → ∀ (l : Launch) (D : va_G) (cs : Nat → ClassId), l.stackTraces = false → zMt l yX4_numberOf cX4_numberOf 7 (some .int) rm_X4_numberOf D cs F I [.ref (F.1 110), .int (zI line), .int (zI slot)] (fun r I' => r = some (.int (zI v85)) ∧ I' = I))
    (hv85 : -2147483648 ≤ v85 ∧ v85 < 2147483648)
    (k5 : (line < (I 110 3)) → ((I 122 (12 * (40 * 0 + slot) + line)) ≠ (-1)) → (is ≠ 0) → (v85 ≤ before) → zW G F 0 0 I [(0, .ref (F.1 110)), (1, .int (zI slot)), (2, .int (zI before)), (3, .int (zI 0)), (4, .int (zI line))] [] 98)
    (k6 : (line < (I 110 3)) → ((I 122 (12 * (40 * 0 + slot) + line)) ≠ (-1)) → (is ≠ 0) → (before < v85) → zW G F 0 0 I [(0, .ref (F.1 110)), (1, .int (zI slot)), (2, .int (zI before)), (3, .int (zI 1)), (4, .int (zI line))] [] 98)
    (k7 : (line < (I 110 3)) → ((I 122 (12 * (40 * 0 + slot) + line)) = (-1)) → zW G F 0 0 I [(0, .ref (F.1 110)), (1, .int (zI slot)), (2, .int (zI before)), (3, .int (zI is)), (4, .int (zI (line + 1)))] [] 53) :
    zW G F 0 0 I [(0, .ref (F.1 110)), (1, .int (zI slot)), (2, .int (zI before)), (3, .int (zI is)), (4, .int (zI line))] [] 53 := by
  refine z_iload 4 hG dX4_isRising_53 rfl ?_
  refine z_aload_n 0 hG dX4_isRising_55 rfl rfl ?_
  refine z_getI (v := I 110 3) hG zcl4 (zltM hL (by decide)) (zl110 hL) 3 (by decide) rfl rfl rfl kw680 dX4_isRising_56 ?_
  refine z_icmp_ge (tgt := 112) hG dX4_isRising_59 (by decide) (by omega) (hr _ _) (fun c59 => ?_) (fun c59 => ?_)
  · skip
    refine z_iload_n 3 hG dX4_isRising_112 rfl rfl ?_
    exact hE _ _ _ _ dX4_isRising_113 (by first | decide | omega) (k1 c59)
  · skip
    refine z_aload_n 0 hG dX4_isRising_62 rfl rfl ?_
    refine z_iconst 0 hG dX4_isRising_63 ?_
    refine z_iload_n 1 hG dX4_isRising_64 rfl rfl ?_
    refine z_iload 4 hG dX4_isRising_65 rfl ?_
    refine z_callV [.int (zI 0), .int (zI slot), .int (zI line)] hG hR (c_X4_tokenOf hL hr (by first | assumption | omega | ((try simp only [zup_k, zup_i, zup_at, ne_eq, not_false_eq_true, Nat.reduceEqDiff]); simp only [zup_at]; omega)) (by first | assumption | omega | ((try simp only [zup_k, zup_i, zup_at, ne_eq, not_false_eq_true, Nat.reduceEqDiff]); simp only [zup_at]; omega)) (by first | assumption | omega | ((try simp only [zup_k, zup_i, zup_at, ne_eq, not_false_eq_true, Nat.reduceEqDiff]); simp only [zup_at]; omega))) hd_X4_tokenOf kw844 kw846 kp31 rfl (zltM hL (by decide)) (zl110 hL) (by decide) (by decide) (by decide) (by decide) rfl rfl (Nat.le_of_ble_eq_true rfl) dX4_isRising_67 (fun r I' hp => ?_)
    rw [hp.1, hp.2]
    show zW G F 0 0 I [(0, .ref (F.1 110)), (1, .int (zI slot)), (2, .int (zI before)), (3, .int (zI is)), (4, .int (zI line))] [.int (zI (I 122 (12 * (40 * 0 + slot) + line)))] 70
    refine z_iconst (-1) hG dX4_isRising_70 ?_
    refine z_icmp_ne (tgt := 77) hG dX4_isRising_71 (by decide) (hr _ _) (by decide) (fun c71 => ?_) (fun c71 => ?_)
    · skip
      refine z_iload_n 3 hG dX4_isRising_77 rfl rfl ?_
      refine z_if_eq (tgt := 96) hG dX4_isRising_78 (by decide) (by omega) (fun c78 => ?_) (fun c78 => ?_)
      · skip
        refine z_iconst 0 hG dX4_isRising_96 ?_
        refine z_istore_n (lv' := [(3, .int (zI 0)), (0, .ref (F.1 110)), (1, .int (zI slot)), (2, .int (zI before)), (4, .int (zI line))]) hG dX4_isRising_97 rfl (by decide) rfl ?_
        refine z_perm (lv' := [(0, .ref (F.1 110)), (1, .int (zI slot)), (2, .int (zI before)), (3, .int (zI 0)), (4, .int (zI line))]) [1, 2, 3, 0, 4] rfl ?_
        exact k2 c59 c71 c78
      · skip
        refine z_aload_n 0 hG dX4_isRising_81 rfl rfl ?_
        refine z_iload 4 hG dX4_isRising_82 rfl ?_
        refine z_iload_n 1 hG dX4_isRising_84 rfl rfl ?_
        refine z_callV [.int (zI line), .int (zI slot)] hG hR (kc85 c59 c71 c78) hd_X4_numberOf kw930 kw932 kp38 rfl (zltM hL (by decide)) (zl110 hL) (by decide) (by decide) (by decide) (by decide) rfl rfl (Nat.le_of_ble_eq_true rfl) dX4_isRising_85 (fun r I' hp => ?_)
        rw [hp.1, hp.2]
        show zW G F 0 0 I [(0, .ref (F.1 110)), (1, .int (zI slot)), (2, .int (zI before)), (3, .int (zI is)), (4, .int (zI line))] [.int (zI v85)] 88
        refine z_iload_n 2 hG dX4_isRising_88 rfl rfl ?_
        refine z_icmp_le (tgt := 96) hG dX4_isRising_89 (by decide) (by omega) (by omega) (fun c89 => ?_) (fun c89 => ?_)
        · skip
          refine z_iconst 0 hG dX4_isRising_96 ?_
          refine z_istore_n (lv' := [(3, .int (zI 0)), (0, .ref (F.1 110)), (1, .int (zI slot)), (2, .int (zI before)), (4, .int (zI line))]) hG dX4_isRising_97 rfl (by decide) rfl ?_
          refine z_perm (lv' := [(0, .ref (F.1 110)), (1, .int (zI slot)), (2, .int (zI before)), (3, .int (zI 0)), (4, .int (zI line))]) [1, 2, 3, 0, 4] rfl ?_
          exact k5 c59 c71 c78 c89
        · skip
          refine z_iconst 1 hG dX4_isRising_92 ?_
          refine z_goto (tgt := 97) hG dX4_isRising_93 (by decide) ?_
          refine z_istore_n (lv' := [(3, .int (zI 1)), (0, .ref (F.1 110)), (1, .int (zI slot)), (2, .int (zI before)), (4, .int (zI line))]) hG dX4_isRising_97 rfl (by decide) rfl ?_
          refine z_perm (lv' := [(0, .ref (F.1 110)), (1, .int (zI slot)), (2, .int (zI before)), (3, .int (zI 1)), (4, .int (zI line))]) [1, 2, 3, 0, 4] rfl ?_
          exact k6 c59 c71 c78 c89
    · skip
      refine z_goto (tgt := 106) hG dX4_isRising_74 (by decide) ?_
      refine z_iinc (lv' := [(4, .int (zI (line + 1))), (0, .ref (F.1 110)), (1, .int (zI slot)), (2, .int (zI before)), (3, .int (zI is))]) 4 hG dX4_isRising_106 rfl (by decide) rfl ?_
      refine z_goto (tgt := 53) hG dX4_isRising_109 (by decide) ?_
      refine z_perm (lv' := [(0, .ref (F.1 110)), (1, .int (zI slot)), (2, .int (zI before)), (3, .int (zI is)), (4, .int (zI (line + 1)))]) [1, 2, 3, 4, 0] rfl ?_
      exact k7 c59 c71

set_option maxRecDepth 100000 in
set_option maxHeartbeats 4000000 in
theorem s_X4_isRising_98 {G : zCx} {F : zFr} {I : zStore} {post : Option Value → zStore → Prop}{slot before is line : Int} {v102 : Int} (hG : zOK G "LineLearnerModel" cX4_isRising 5) (hR : zRoom G rm_X4_isRising) (hE : zRetZ G F cX4_isRising 0 0 post) (hL : zLayM F) (hr : zRg I) (h1 : 0 ≤ slot ∧ slot < 40) (h3 : 0 ≤ line ∧ line < 12)
    (kc102 : ∀ (l : Launch) (D : va_G) (cs : Nat → ClassId), l.stackTraces = false → zMt l yX4_numberOf cX4_numberOf 7 (some .int) rm_X4_numberOf D cs F I [.ref (F.1 110), .int (zI line), .int (zI slot)] (fun r I' => r = some (.int (zI v102)) ∧ I' = I))
    (hv102 : -2147483648 ≤ v102 ∧ v102 < 2147483648)
    (k3 : zW G F 0 0 I [(0, .ref (F.1 110)), (1, .int (zI slot)), (2, .int (zI v102)), (3, .int (zI is)), (4, .int (zI (line + 1)))] [] 53) :
    zW G F 0 0 I [(0, .ref (F.1 110)), (1, .int (zI slot)), (2, .int (zI before)), (3, .int (zI is)), (4, .int (zI line))] [] 98 := by
  refine z_aload_n 0 hG dX4_isRising_98 rfl rfl ?_
  refine z_iload 4 hG dX4_isRising_99 rfl ?_
  refine z_iload_n 1 hG dX4_isRising_101 rfl rfl ?_
  refine z_callV [.int (zI line), .int (zI slot)] hG hR (kc102 ) hd_X4_numberOf kw930 kw932 kp38 rfl (zltM hL (by decide)) (zl110 hL) (by decide) (by decide) (by decide) (by decide) rfl rfl (Nat.le_of_ble_eq_true rfl) dX4_isRising_102 (fun r I' hp => ?_)
  rw [hp.1, hp.2]
  show zW G F 0 0 I [(0, .ref (F.1 110)), (1, .int (zI slot)), (2, .int (zI before)), (3, .int (zI is)), (4, .int (zI line))] [.int (zI v102)] 105
  refine z_istore_n (lv' := [(2, .int (zI v102)), (0, .ref (F.1 110)), (1, .int (zI slot)), (3, .int (zI is)), (4, .int (zI line))]) hG dX4_isRising_105 rfl (by decide) rfl ?_
  refine z_iinc (lv' := [(4, .int (zI (line + 1))), (2, .int (zI v102)), (0, .ref (F.1 110)), (1, .int (zI slot)), (3, .int (zI is))]) 4 hG dX4_isRising_106 rfl (by decide) rfl ?_
  refine z_goto (tgt := 53) hG dX4_isRising_109 (by decide) ?_
  refine z_perm (lv' := [(0, .ref (F.1 110)), (1, .int (zI slot)), (2, .int (zI v102)), (3, .int (zI is)), (4, .int (zI (line + 1)))]) [2, 3, 1, 4, 0] rfl ?_
  exact k3

abbrev rm_X4_merge : Room := { frames := 6, cells := 0, slots := 0, locals := 144 }
set_option maxRecDepth 100000 in
set_option maxHeartbeats 4000000 in
theorem s_X4_merge_0 {G : zCx} {F : zFr} {I : zStore} {post : Option Value → zStore → Prop}{line : Int} {J42 : zStore} {v42 : Int} {J49 : zStore} (hG : zOK G "LineLearnerModel" cX4_merge 3) (hR : zRoom G rm_X4_merge) (hE : zRetI G F cX4_merge 0 0 post) (hL : zLayM F) (hr : zRg I) (hl : -2147483648 ≤ line ∧ line < 2147483648) (hk : 0 ≤ I 119 0 ∧ I 119 0 < 4096)
    (kc42 : (0 ≤ line ∧ line < I 110 3) → ((zand (zshr (I 119 0) line) 1) ≠ 1) → ∀ (l : Launch) (D : va_G) (cs : Nat → ClassId), l.stackTraces = false → zMt l yX4_align cX4_align 8 (some .int) rm_X4_align D cs F (zup I 110 0 0) [.ref (F.1 110), .int (zI 0), .int (zI line)] (fun r I' => r = some (.int (zI v42)) ∧ I' = J42))
    (hrJ42 : zRg J42)
    (hv42 : -2147483648 ≤ v42 ∧ v42 < 2147483648)
    (kc49 : (0 ≤ line ∧ line < I 110 3) → ((zand (zshr (I 119 0) line) 1) ≠ 1) → ∀ (l : Launch) (D : va_G) (cs : Nat → ClassId), l.stackTraces = false → zMt l yX4_follow cX4_follow 6 none rm_X4_follow D cs F J42 [.ref (F.1 110), .int (zI 0), .int (zI line)] (fun r I' => r = none ∧ I' = J49))
    (hrJ49 : zRg J49)
    (k6 : (0 ≤ line ∧ line < I 110 3) → ((zand (zshr (I 119 0) line) 1) ≠ 1) → zW G F 0 0 J49 [(0, .ref (F.1 110)), (1, .int (zI line)), (2, .int (zI v42))] [] 52)
    (k7 : (0 ≤ line ∧ line < I 110 3) → ((zand (zshr (I 119 0) line) 1) = 1) → post (some (.int (zI 0))) (zup (zup I 110 0 0) 110 0 2))
    (k8 : (¬ (0 ≤ line ∧ line < I 110 3)) → post (some (.int (zI 0))) (zup (zup I 110 0 0) 110 0 1)) :
    zW G F 0 0 I [(0, .ref (F.1 110)), (1, .int (zI line))] [] 0 := by
  refine z_aload_n 0 hG dX4_merge_0 rfl rfl ?_
  refine z_iconst 0 hG dX4_merge_1 ?_
  refine z_putI hG zcl4 (zltM hL (by decide)) (zl110 hL) 0 (by decide) (ki := 0) rfl rfl kw677 rfl rfl dX4_merge_2 ?_
  refine z_aload_n 0 hG dX4_merge_5 rfl rfl ?_
  refine z_iload_n 1 hG dX4_merge_6 rfl rfl ?_
  refine z_callV [.int (zI line)] hG hR (c_X4_isLine hL (zRg_up hr (by decide)) (by first | assumption | omega | ((try simp only [zup_k, zup_i, zup_at, ne_eq, not_false_eq_true, Nat.reduceEqDiff]); simp only [zup_at]; omega))) hd_X4_isLine kw787 kw789 kp24 rfl (zltM hL (by decide)) (zl110 hL) (by decide) (by decide) (by decide) (by decide) rfl rfl (Nat.le_of_ble_eq_true rfl) dX4_merge_7 (fun r I' hp => ?_)
  rw [hp.1, hp.2]
  show zW G F 0 0 (zup I 110 0 0) [(0, .ref (F.1 110)), (1, .int (zI line))] [.int (zI (if 0 ≤ line ∧ line < I 110 3 then 1 else 0))] 10
  refine z_if_ne (tgt := 19) hG dX4_merge_10 (by decide) (by omega) (fun c10 => ?_) (fun c10 => ?_)
  · skip
    have c10b := zif_y c10
    refine z_aload_n 0 hG dX4_merge_19 rfl rfl ?_
    refine z_getR (t := 119) hG zcl4 (zltM hL (by decide)) (zl110 hL) 14 (by decide) rfl kw691 dX4_merge_20 ?_
    refine z_iconst 0 hG dX4_merge_23 ?_
    refine z_iald (v := I 119 0) hG (zltM hL (by decide)) (zl119 hL) (by decide) (by decide) (zup_k (by decide)) dX4_merge_24 ?_
    refine z_iload_n 1 hG dX4_merge_25 rfl rfl ?_
    refine z_ishr hG dX4_merge_26 ?_
    refine z_iconst 1 hG dX4_merge_27 ?_
    refine z_iand hG dX4_merge_28 ?_
    have zz9 := zI_rng (zI (zshr (I 119 0) line) &&& zI 1)
    have zz8 : -2147483648 ≤ zand (zshr (I 119 0) line) 1 ∧ zand (zshr (I 119 0) line) 1 < 2147483648 := zz9
    refine z_iconst 1 hG dX4_merge_29 ?_
    refine z_icmp_ne (tgt := 39) hG dX4_merge_30 (by decide) (by omega) (by decide) (fun c30 => ?_) (fun c30 => ?_)
    · skip
      refine z_aload_n 0 hG dX4_merge_39 rfl rfl ?_
      refine z_iconst 0 hG dX4_merge_40 ?_
      refine z_iload_n 1 hG dX4_merge_41 rfl rfl ?_
      refine z_callV [.int (zI 0), .int (zI line)] hG hR (kc42 c10b c30) hd_X4_align kw821 kw823 kp27 rfl (zltM hL (by decide)) (zl110 hL) (by decide) (by decide) (by decide) (by decide) rfl rfl (Nat.le_of_ble_eq_true rfl) dX4_merge_42 (fun r I' hp => ?_)
      rw [hp.1, hp.2]
      show zW G F 0 0 J42 [(0, .ref (F.1 110)), (1, .int (zI line))] [.int (zI v42)] 45
      refine z_istore_n (lv' := [(2, .int (zI v42)), (0, .ref (F.1 110)), (1, .int (zI line))]) hG dX4_merge_45 rfl (by decide) rfl ?_
      refine z_aload_n 1 hG dX4_merge_46 rfl rfl ?_
      refine z_iconst 0 hG dX4_merge_47 ?_
      refine z_iload_n 2 hG dX4_merge_48 rfl rfl ?_
      refine z_callV [.int (zI 0), .int (zI line)] hG hR (kc49 c10b c30) hd_X4_follow kw854 kw856 kp32 rfl (zltM hL (by decide)) (zl110 hL) (by decide) (by decide) (by decide) (by decide) rfl rfl (Nat.le_of_ble_eq_true rfl) dX4_merge_49 (fun r I' hp => ?_)
      rw [hp.1, hp.2]
      show zW G F 0 0 J49 [(2, .int (zI v42)), (0, .ref (F.1 110)), (1, .int (zI line))] [] 52
      refine z_perm (lv' := [(0, .ref (F.1 110)), (1, .int (zI line)), (2, .int (zI v42))]) [1, 2, 0] rfl ?_
      exact k6 c10b c30
    · skip
      refine z_aload_n 0 hG dX4_merge_33 rfl rfl ?_
      refine z_iconst 2 hG dX4_merge_34 ?_
      refine z_callV [.int (zI 2)] hG hR (c_X4_fail hL (zRg_up hr (by decide)) (by first | assumption | omega | ((try simp only [zup_k, zup_i, zup_at, ne_eq, not_false_eq_true, Nat.reduceEqDiff]); simp only [zup_at]; omega))) hd_X4_fail kw772 kw774 kp23 rfl (zltM hL (by decide)) (zl110 hL) (by decide) (by decide) (by decide) (by decide) rfl rfl (Nat.le_of_ble_eq_true rfl) dX4_merge_35 (fun r I' hp => ?_)
      rw [hp.1, hp.2]
      show zW G F 0 0 (zup (zup I 110 0 0) 110 0 2) [(0, .ref (F.1 110)), (1, .int (zI line))] [.int (zI 0)] 38
      exact hE _ _ _ _ dX4_merge_38 (k7 c10b c30)
  · skip
    have c10b := zif_n c10
    refine z_aload_n 0 hG dX4_merge_13 rfl rfl ?_
    refine z_iconst 1 hG dX4_merge_14 ?_
    refine z_callV [.int (zI 1)] hG hR (c_X4_fail hL (zRg_up hr (by decide)) (by first | assumption | omega | ((try simp only [zup_k, zup_i, zup_at, ne_eq, not_false_eq_true, Nat.reduceEqDiff]); simp only [zup_at]; omega))) hd_X4_fail kw772 kw774 kp23 rfl (zltM hL (by decide)) (zl110 hL) (by decide) (by decide) (by decide) (by decide) rfl rfl (Nat.le_of_ble_eq_true rfl) dX4_merge_15 (fun r I' hp => ?_)
    rw [hp.1, hp.2]
    show zW G F 0 0 (zup (zup I 110 0 0) 110 0 1) [(0, .ref (F.1 110)), (1, .int (zI line))] [.int (zI 0)] 18
    exact hE _ _ _ _ dX4_merge_18 (k8 c10b)

set_option maxRecDepth 100000 in
set_option maxHeartbeats 4000000 in
theorem s_X4_merge_52 {G : zCx} {F : zFr} {I : zStore} {post : Option Value → zStore → Prop}{line cost : Int} {v59 : Int} {J77 : zStore} (hG : zOK G "LineLearnerModel" cX4_merge 3) (hR : zRoom G rm_X4_merge) (hE : zRetI G F cX4_merge 0 0 post) (hL : zLayM F) (hr : zRg I) (hf : 0 ≤ I 118 0 ∧ I 118 0 ≤ 40)
    (kc59 : ∀ (l : Launch) (D : va_G) (cs : Nat → ClassId), l.stackTraces = false → zMt l yX4_freshSteps cX4_freshSteps 3 (some .int) rm_X4_freshSteps D cs F I [.ref (F.1 110)] (fun r I' => r = some (.int (zI v59)) ∧ I' = I))
    (hv59 : 0 ≤ v59 ∧ v59 ≤ 70)
    (kc77 : (((I 118 0) + v59) ≤ 40) → ∀ (l : Launch) (D : va_G) (cs : Nat → ClassId), l.stackTraces = false → zMt l yX4_mergeInto cX4_mergeInto 10 none rm_X4_mergeInto D cs F I [.ref (F.1 110), .int (zI 0), .int (zI line)] (fun r I' => r = none ∧ I' = J77))
    (hrJ77 : zRg J77)
    (k5 : (((I 118 0) + v59) ≤ 40) → post (some (.int (zI cost))) J77)
    (k6 : (40 < ((I 118 0) + v59)) → post (some (.int (zI 0))) (zup I 110 0 2)) :
    zW G F 0 0 I [(0, .ref (F.1 110)), (1, .int (zI line)), (2, .int (zI cost))] [] 52 := by
  refine z_aload_n 0 hG dX4_merge_52 rfl rfl ?_
  refine z_getR (t := 118) hG zcl4 (zltM hL (by decide)) (zl110 hL) 13 (by decide) rfl kw690 dX4_merge_53 ?_
  refine z_iconst 0 hG dX4_merge_56 ?_
  refine z_iald (v := I 118 0) hG (zltM hL (by decide)) (zl118 hL) (by decide) (by decide) rfl dX4_merge_57 ?_
  refine z_aload_n 0 hG dX4_merge_58 rfl rfl ?_
  refine z_callV [] hG hR (kc59 ) hd_X4_freshSteps kw858 kw860 kp33 rfl (zltM hL (by decide)) (zl110 hL) (by decide) (by decide) (by decide) (by decide) rfl rfl (Nat.le_of_ble_eq_true rfl) dX4_merge_59 (fun r I' hp => ?_)
  rw [hp.1, hp.2]
  show zW G F 0 0 I [(0, .ref (F.1 110)), (1, .int (zI line)), (2, .int (zI cost))] [.int (zI v59), .int (zI (I 118 0))] 62
  refine z_iadd hG dX4_merge_62 ?_
  refine z_bipush 40 hG dX4_merge_63 (by decide) ?_
  refine z_icmp_le (tgt := 74) hG dX4_merge_65 (by decide) (by omega) (by decide) (fun c65 => ?_) (fun c65 => ?_)
  · skip
    refine z_aload_n 0 hG dX4_merge_74 rfl rfl ?_
    refine z_iconst 0 hG dX4_merge_75 ?_
    refine z_iload_n 1 hG dX4_merge_76 rfl rfl ?_
    refine z_callV [.int (zI 0), .int (zI line)] hG hR (kc77 c65) hd_X4_mergeInto kw862 kw864 kp34 rfl (zltM hL (by decide)) (zl110 hL) (by decide) (by decide) (by decide) (by decide) rfl rfl (Nat.le_of_ble_eq_true rfl) dX4_merge_77 (fun r I' hp => ?_)
    rw [hp.1, hp.2]
    show zW G F 0 0 J77 [(0, .ref (F.1 110)), (1, .int (zI line)), (2, .int (zI cost))] [] 80
    refine z_iload_n 2 hG dX4_merge_80 rfl rfl ?_
    exact hE _ _ _ _ dX4_merge_81 (k5 c65)
  · skip
    refine z_aload_n 0 hG dX4_merge_68 rfl rfl ?_
    refine z_iconst 2 hG dX4_merge_69 ?_
    refine z_callV [.int (zI 2)] hG hR (c_X4_fail hL hr (by first | assumption | omega | ((try simp only [zup_k, zup_i, zup_at, ne_eq, not_false_eq_true, Nat.reduceEqDiff]); simp only [zup_at]; omega))) hd_X4_fail kw772 kw774 kp23 rfl (zltM hL (by decide)) (zl110 hL) (by decide) (by decide) (by decide) (by decide) rfl rfl (Nat.le_of_ble_eq_true rfl) dX4_merge_70 (fun r I' hp => ?_)
    rw [hp.1, hp.2]
    show zW G F 0 0 (zup I 110 0 2) [(0, .ref (F.1 110)), (1, .int (zI line)), (2, .int (zI cost))] [.int (zI 0)] 73
    exact hE _ _ _ _ dX4_merge_73 (k6 c65)

/-- the running numbers are numbers: what isRising has seen of the first l lines -/
def zmr (I : zStore) (slot : Int) : Nat → Int × Bool
  | 0 => (-1, true)
  | l + 1 => if I 122 (12 * (40 * 0 + slot) + l) = (-1) then zmr I slot l else (zmb I l slot, (zmr I slot l).2 && decide ((zmr I slot l).1 < zmb I l slot))
theorem zmr_rg {I : zStore} {slot : Int} {N : Nat} (hq : ∀ l : Nat, l < N → -2147483648 ≤ zmb I l slot ∧ zmb I l slot < 2147483648) : ∀ l : Nat, l ≤ N → -2147483648 ≤ (zmr I slot l).1 ∧ (zmr I slot l).1 < 2147483648
  | 0, _ => by simp only [zmr]; decide
  | l + 1, h => by
    have h1 := zmr_rg hq l (by omega)
    have h2 := hq l (by omega)
    simp only [zmr]
    split
    · exact h1
    · exact h2
set_option maxHeartbeats 4000000 in
theorem c_X4_isRising {F : zFr} {I : zStore} {slot : Int} {N : Nat} (hL : zLayM F) (hr : zRg I) (hs : -2147483648 ≤ slot ∧ slot < 2147483648) (hf : 0 ≤ I 118 0 ∧ I 118 0 ≤ 40) (hN : I 110 3 = N) (hN2 : N ≤ 12) (hu : 0 ≤ slot → slot < I 118 0 → ∀ l : Int, 0 ≤ l → l < I 110 3 → ∀ _u : Unit, I 122 (12 * (40 * 0 + slot) + l) ≠ (-1) → (0 ≤ I 122 (12 * (40 * 0 + slot) + l) ∧ I 122 (12 * (40 * 0 + slot) + l) < 30) ∧ zmT I (30 * l + I 122 (12 * (40 * 0 + slot) + l))) (hq : 0 ≤ slot → slot < I 118 0 → ∀ l : Nat, l < N → -2147483648 ≤ zmb I l slot ∧ zmb I l slot < 2147483648) : ∀ (l : Launch) (D : va_G) (cs : Nat → ClassId), l.stackTraces = false → zMt l yX4_isRising cX4_isRising 5 (some .boolean) rm_X4_isRising D cs F I [.ref (F.1 110), .int (zI slot)] (fun r I' => r = some (.int (zI (if (0 ≤ slot ∧ slot < I 118 0) ∧ I 120 slot = 1 ∧ 2 ≤ zmu (I 122) 0 slot N then zb (zmr I slot N).2 else 0))) ∧ I' = zup I 110 0 (if 0 ≤ slot ∧ slot < I 118 0 then 0 else 1)) := by
  intro l D cs hst
  refine zMt.ofZ hst (by decide +kernel) (Nat.le_of_ble_eq_true rfl) fun G hG hR hE => ?_
  have eN : (I 110 3).toNat = N := by omega
  refine s_X4_isRising_0 hG hR hE hL hr hs hf (by omega) (fun q _ => ?_) (fun q _ q2 => ?_) (fun q _ q2 q3 => ?_) (fun q _ q2 q3 => ?_)
  · rw [if_neg (fun p => q p.1), if_neg q]
    exact ⟨rfl, rfl⟩
  · rw [if_neg (fun p => q2 p.2.1), if_pos q]
    exact ⟨rfl, rfl⟩
  · rw [eN] at q3
    rw [if_pos ⟨q, q2, q3⟩, if_pos q] at hE
    have hu := hu q.1 q.2
    have hq := hq q.1 q.2
    have hrJ : zRg (zup I 110 0 0) := zRg_up hr (by decide)
    have key : ∀ (d k : Nat), k + d = N → zW G F 0 0 (zup I 110 0 0) [(0, .ref (F.1 110)), (1, .int (zI slot)), (2, .int (zI (zmr I slot k).1)), (3, .int (zI (zb (zmr I slot k).2))), (4, .int (zI k))] [] 53 := by
      intro d
      induction d with
      | zero =>
        intro k hk
        have e : k = N := by omega
        subst e
        have hb := zmr_rg hq k (Nat.le_refl _)
        exact s_X4_isRising_53 (v85 := 0) hG hR hE hL hrJ (by omega) (show 0 ≤ I 110 3 ∧ I 110 3 ≤ 12 by omega) (by omega) hb (zb_le _) (fun _ => ⟨rfl, rfl⟩) (fun p => absurd (show (k : Int) < I 110 3 from p) (by omega)) (fun p => absurd (show (k : Int) < I 110 3 from p) (by omega)) (by decide) (fun p => absurd (show (k : Int) < I 110 3 from p) (by omega)) (fun p => absurd (show (k : Int) < I 110 3 from p) (by omega)) (fun p => absurd (show (k : Int) < I 110 3 from p) (by omega))
      | succ d ih =>
        intro k hk
        have h := ih (k + 1) (by omega)
        have hb := zmr_rg hq k (by omega)
        have hqk := hq k (by omega)
        have hc : ∀ _u : Unit, I 122 (12 * (40 * 0 + slot) + k) ≠ (-1) → ∀ (l : Launch) (D : va_G) (cs : Nat → ClassId), l.stackTraces = false → zMt l yX4_numberOf cX4_numberOf 7 (some .int) rm_X4_numberOf D cs F (zup I 110 0 0) [.ref (F.1 110), .int (zI k), .int (zI slot)] (fun r I' => r = some (.int (zI (zmb I k slot))) ∧ I' = zup I 110 0 0) := fun _ _ => c_X4_numberOf hL hrJ (by omega) (by omega) (hu k (by omega) (by omega))
        have hs : zmr I slot (k + 1) = if I 122 (12 * (40 * 0 + slot) + k) = (-1) then zmr I slot k else (zmb I k slot, (zmr I slot k).2 && decide ((zmr I slot k).1 < zmb I k slot)) := rfl
        rw [hs] at h
        have go : ∀ b : Bool, I 122 (12 * (40 * 0 + slot) + k) ≠ (-1) → b = ((zmr I slot k).2 && decide ((zmr I slot k).1 < zmb I k slot)) → zW G F 0 0 (zup I 110 0 0) [(0, .ref (F.1 110)), (1, .int (zI slot)), (2, .int (zI (zmr I slot k).1)), (3, .int (zI (zb b))), (4, .int (zI k))] [] 98 := fun b p1 p2 => by
          rw [if_neg p1] at h
          exact s_X4_isRising_98 (v102 := zmb I k slot) hG hR hE hL hrJ (by omega) (by omega) (hc () p1) (by omega) (by rw [p2]; exact h)
        refine s_X4_isRising_53 (v85 := zmb I k slot) hG hR hE hL hrJ (by omega) (show 0 ≤ I 110 3 ∧ I 110 3 ≤ 12 by omega) (by omega) hb (zb_le _) (fun p => absurd (show I 110 3 ≤ (k : Int) from p) (by omega)) (fun _ p p2 => ?_) (fun _ p _ => hc () p) (by omega) (fun _ p p2 p3 => ?_) (fun _ p p2 p3 => ?_) (fun _ p => ?_)
        · exact go false p (by rw [zb0 p2]; rfl)
        · exact go false p (by rw [decide_eq_false (by omega), Bool.and_false])
        · exact go true p (by rw [zb1_ p2, decide_eq_true (show (zmr I slot k).1 < zmb I k slot by omega)]; rfl)
        · rw [if_pos (show I 122 (12 * (40 * 0 + slot) + k) = (-1) from p)] at h
          exact h
    exact key N 0 (by omega)
  · rw [eN] at q3
    rw [if_neg (fun p => by have := p.2.2; omega), if_pos q]
    exact ⟨rfl, rfl⟩
