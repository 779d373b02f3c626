/-- a token's place of the model, in its ranges -/
def zmT (I : zStore) (p : Int) : Prop := (0 ≤ p ∧ p < 360) ∧ 0 ≤ I 116 p ∧ 0 ≤ I 117 p ∧ I 116 p + I 117 p ≤ 30
/-- whether the model's tokens at a and b are the same texts -/
def zmS (sz st tx : Int → Int) (a b : Int) : Bool := (sz a == sz b) && zseq tx (a / 30 * 30 + st a) (b / 30 * 30 + st b) (sz a).toNat
abbrev rm_X4_areSame : Room := { frames := 0, cells := 0, slots := 0, locals := 0 }
set_option maxRecDepth 100000 in
set_option maxHeartbeats 4000000 in
theorem s_X4_areSame_0 {G : zCx} {F : zFr} {I : zStore} {post : Option Value → zStore → Prop}{a : Int} {b : Int} (hG : zOK G "LineLearnerModel" cX4_areSame 6) (hR : zRoom G rm_X4_areSame) (hE : zRetZ G F cX4_areSame 0 0 post) (hL : zLayM F) (hr : zRg I) (ha : 0 ≤ a ∧ a < 360) (hb : 0 ≤ b ∧ b < 360)
    (k1 : ((I 117 a) = (I 117 b)) → zW G F 0 0 I [(0, .ref (F.1 110)), (1, .int (zI a)), (2, .int (zI b)), (3, .int (zI (((a / 30) * 30) + (I 116 a)))), (4, .int (zI (((b / 30) * 30) + (I 116 b)))), (5, .int (zI 0))] [] 51)
    (k2 : ((I 117 a) ≠ (I 117 b)) → post (some (.int (zI 0))) I) :
    zW G F 0 0 I [(0, .ref (F.1 110)), (1, .int (zI a)), (2, .int (zI b))] [] 0 := by
  refine z_aload_n 0 hG dX4_areSame_0 rfl rfl ?_
  refine z_getR (t := 117) hG zcl4 (zltM hL (by decide)) (zl110 hL) 9 (by decide) rfl kw686 dX4_areSame_1 ?_
  refine z_iload_n 1 hG dX4_areSame_4 rfl rfl ?_
  refine z_iald (v := I 117 a) hG (zltM hL (by decide)) (zl117 hL) (by decide) (by omega) rfl dX4_areSame_5 ?_
  refine z_aload_n 0 hG dX4_areSame_6 rfl rfl ?_
  refine z_getR (t := 117) hG zcl4 (zltM hL (by decide)) (zl110 hL) 9 (by decide) rfl kw686 dX4_areSame_7 ?_
  refine z_iload_n 2 hG dX4_areSame_10 rfl rfl ?_
  refine z_iald (v := I 117 b) hG (zltM hL (by decide)) (zl117 hL) (by decide) (by omega) rfl dX4_areSame_11 ?_
  refine z_icmp_eq (tgt := 17) hG dX4_areSame_12 (by decide) (hr _ _) (hr _ _) (fun c12 => ?_) (fun c12 => ?_)
  · skip
    refine z_iload_n 1 hG dX4_areSame_17 rfl rfl ?_
    refine z_bipush 30 hG dX4_areSame_18 (by decide) ?_
    refine z_idiv hG (by omega) (by omega) dX4_areSame_20 ?_
    refine z_bipush 30 hG dX4_areSame_21 (by decide) ?_
    refine z_imul hG dX4_areSame_23 ?_
    refine z_aload_n 0 hG dX4_areSame_24 rfl rfl ?_
    refine z_getR (t := 116) hG zcl4 (zltM hL (by decide)) (zl110 hL) 8 (by decide) rfl kw685 dX4_areSame_25 ?_
    refine z_iload_n 1 hG dX4_areSame_28 rfl rfl ?_
    refine z_iald (v := I 116 a) hG (zltM hL (by decide)) (zl116 hL) (by decide) (by omega) rfl dX4_areSame_29 ?_
    refine z_iadd hG dX4_areSame_30 ?_
    refine z_istore_n (lv' := [(3, .int (zI (((a / 30) * 30) + (I 116 a)))), (0, .ref (F.1 110)), (1, .int (zI a)), (2, .int (zI b))]) hG dX4_areSame_31 rfl (by decide) rfl ?_
    refine z_iload_n 3 hG dX4_areSame_32 rfl rfl ?_
    refine z_bipush 30 hG dX4_areSame_33 (by decide) ?_
    refine z_idiv hG (by omega) (by omega) dX4_areSame_35 ?_
    refine z_bipush 30 hG dX4_areSame_36 (by decide) ?_
    refine z_imul hG dX4_areSame_38 ?_
    refine z_aload_n 1 hG dX4_areSame_39 rfl rfl ?_
    refine z_getR (t := 116) hG zcl4 (zltM hL (by decide)) (zl110 hL) 8 (by decide) rfl kw685 dX4_areSame_40 ?_
    refine z_iload_n 3 hG dX4_areSame_43 rfl rfl ?_
    refine z_iald (v := I 116 b) hG (zltM hL (by decide)) (zl116 hL) (by decide) (by omega) rfl dX4_areSame_44 ?_
    refine z_iadd hG dX4_areSame_45 ?_
    refine z_istore (lv' := [(4, .int (zI (((b / 30) * 30) + (I 116 b)))), (3, .int (zI (((a / 30) * 30) + (I 116 a)))), (0, .ref (F.1 110)), (1, .int (zI a)), (2, .int (zI b))]) hG dX4_areSame_46 (by decide) rfl ?_
    refine z_iconst 0 hG dX4_areSame_48 ?_
    refine z_istore (lv' := [(5, .int (zI 0)), (4, .int (zI (((b / 30) * 30) + (I 116 b)))), (3, .int (zI (((a / 30) * 30) + (I 116 a)))), (0, .ref (F.1 110)), (1, .int (zI a)), (2, .int (zI b))]) hG dX4_areSame_49 (by decide) rfl ?_
    refine z_perm (lv' := [(0, .ref (F.1 110)), (1, .int (zI a)), (2, .int (zI b)), (3, .int (zI (((a / 30) * 30) + (I 116 a)))), (4, .int (zI (((b / 30) * 30) + (I 116 b)))), (5, .int (zI 0))]) [3, 4, 5, 2, 1, 0] rfl ?_
    exact k1 c12
  · skip
    refine z_iconst 0 hG dX4_areSame_15 ?_
    exact hE _ _ _ _ dX4_areSame_16 (by first | decide | omega) (k2 c12)

set_option maxRecDepth 100000 in
set_option maxHeartbeats 4000000 in
theorem s_X4_areSame_51 {G : zCx} {F : zFr} {I : zStore} {post : Option Value → zStore → Prop}{a b x y i : Int} (hG : zOK G "LineLearnerModel" cX4_areSame 6) (hR : zRoom G rm_X4_areSame) (hE : zRetZ G F cX4_areSame 0 0 post) (hL : zLayM F) (hr : zRg I) (ha : 0 ≤ a ∧ a < 360) (h1 : 0 ≤ i ∧ i ≤ I 117 a ∧ I 117 a ≤ 30) (hx : 0 ≤ x ∧ x + I 117 a ≤ 360) (hy : 0 ≤ y ∧ y + I 117 a ≤ 360)
    (k1 : ((I 117 a) ≤ i) → post (some (.int (zI 1))) I)
    (k2 : (i < (I 117 a)) → ((I 113 (x + i)) = (I 113 (y + i))) → zW G F 0 0 I [(0, .ref (F.1 110)), (1, .int (zI a)), (2, .int (zI b)), (3, .int (zI x)), (4, .int (zI y)), (5, .int (zI (i + 1)))] [] 51)
    (k3 : (i < (I 117 a)) → ((I 113 (x + i)) ≠ (I 113 (y + i))) → post (some (.int (zI 0))) I) :
    zW G F 0 0 I [(0, .ref (F.1 110)), (1, .int (zI a)), (2, .int (zI b)), (3, .int (zI x)), (4, .int (zI y)), (5, .int (zI i))] [] 51 := by
  refine z_iload 5 hG dX4_areSame_51 rfl ?_
  refine z_aload_n 0 hG dX4_areSame_53 rfl rfl ?_
  refine z_getR (t := 117) hG zcl4 (zltM hL (by decide)) (zl110 hL) 9 (by decide) rfl kw686 dX4_areSame_54 ?_
  refine z_iload_n 1 hG dX4_areSame_57 rfl rfl ?_
  refine z_iald (v := I 117 a) hG (zltM hL (by decide)) (zl117 hL) (by decide) (by omega) rfl dX4_areSame_58 ?_
  refine z_icmp_ge (tgt := 92) hG dX4_areSame_59 (by decide) (by omega) (hr _ _) (fun c59 => ?_) (fun c59 => ?_)
  · skip
    refine z_iconst 1 hG dX4_areSame_92 ?_
    exact hE _ _ _ _ dX4_areSame_93 (by first | decide | omega) (k1 c59)
  · skip
    refine z_aload_n 0 hG dX4_areSame_62 rfl rfl ?_
    refine z_getR (t := 113) hG zcl4 (zltM hL (by decide)) (zl110 hL) 5 (by decide) rfl kw682 dX4_areSame_63 ?_
    refine z_iload_n 3 hG dX4_areSame_66 rfl rfl ?_
    refine z_iload 5 hG dX4_areSame_67 rfl ?_
    refine z_iadd hG dX4_areSame_69 ?_
    refine z_iald (v := I 113 (x + i)) hG (zltM hL (by decide)) (zl113 hL) (by decide) (by omega) rfl dX4_areSame_70 ?_
    refine z_aload_n 0 hG dX4_areSame_71 rfl rfl ?_
    refine z_getR (t := 113) hG zcl4 (zltM hL (by decide)) (zl110 hL) 5 (by decide) rfl kw682 dX4_areSame_72 ?_
    refine z_iload 4 hG dX4_areSame_75 rfl ?_
    refine z_iload 5 hG dX4_areSame_77 rfl ?_
    refine z_iadd hG dX4_areSame_79 ?_
    refine z_iald (v := I 113 (y + i)) hG (zltM hL (by decide)) (zl113 hL) (by decide) (by omega) rfl dX4_areSame_80 ?_
    refine z_icmp_eq (tgt := 86) hG dX4_areSame_81 (by decide) (hr _ _) (hr _ _) (fun c81 => ?_) (fun c81 => ?_)
    · skip
      refine z_iinc (lv' := [(5, .int (zI (i + 1))), (0, .ref (F.1 110)), (1, .int (zI a)), (2, .int (zI b)), (3, .int (zI x)), (4, .int (zI y))]) 5 hG dX4_areSame_86 rfl (by decide) rfl ?_
      refine z_goto (tgt := 51) hG dX4_areSame_89 (by decide) ?_
      refine z_perm (lv' := [(0, .ref (F.1 110)), (1, .int (zI a)), (2, .int (zI b)), (3, .int (zI x)), (4, .int (zI y)), (5, .int (zI (i + 1)))]) [1, 2, 3, 4, 5, 0] rfl ?_
      exact k2 c59 c81
    · skip
      refine z_iconst 0 hG dX4_areSame_84 ?_
      exact hE _ _ _ _ dX4_areSame_85 (by first | decide | omega) (k3 c59 c81)

set_option maxHeartbeats 4000000 in
theorem c_X4_areSame {F : zFr} {I : zStore} {a b : Int} (hL : zLayM F) (hr : zRg I) (ha : zmT I a) (hb : zmT I b) : ∀ (l : Launch) (D : va_G) (cs : Nat → ClassId), l.stackTraces = false → zMt l yX4_areSame cX4_areSame 6 (some .boolean) rm_X4_areSame D cs F I [.ref (F.1 110), .int (zI a), .int (zI b)] (fun r I' => r = some (.int (zI (zb (zmS (I 117) (I 116) (I 113) a b)))) ∧ I' = I) := by
  intro l D cs hst
  refine zMt.ofZ hst (by decide +kernel) (Nat.le_of_ble_eq_true rfl) fun G hG hR hE => ?_
  obtain ⟨a1, a2, a3, a4⟩ := ha
  obtain ⟨b1, b2, b3, b4⟩ := hb
  refine s_X4_areSame_0 hG hR hE hL hr a1 b1 (fun e => ?_) (fun e => ?_)
  · have key : ∀ (d k : Nat), (k : Int) + d = I 117 a → zseq (I 113) (a / 30 * 30 + I 116 a) (b / 30 * 30 + I 116 b) k = true → zW G F 0 0 I [(0, .ref (F.1 110)), (1, .int (zI a)), (2, .int (zI b)), (3, .int (zI (a / 30 * 30 + I 116 a))), (4, .int (zI (b / 30 * 30 + I 116 b))), (5, .int (zI k))] [] 51 := by
      intro d
      induction d with
      | zero =>
        intro k hk hs
        refine s_X4_areSame_51 hG hR hE hL hr a1 (by omega) (by omega) (by omega) (fun _ => ?_) (fun h => absurd h (by omega)) (fun h => absurd h (by omega))
        refine ⟨?_, rfl⟩
        unfold zmS
        rw [show (I 117 a).toNat = k by omega, hs, show (I 117 a == I 117 b) = true from beq_iff_eq.mpr e]
        rfl
      | succ d ih =>
        intro k hk hs
        refine s_X4_areSame_51 hG hR hE hL hr a1 (by omega) (by omega) (by omega) (fun h => absurd h (by omega)) (fun _ e2 => ?_) (fun _ e2 => ?_)
        · refine ih (k + 1) (by omega) ?_
          simp only [zseq]
          rw [hs, show (I 113 (a / 30 * 30 + I 116 a + k) == I 113 (b / 30 * 30 + I 116 b + k)) = true from beq_iff_eq.mpr e2]
          rfl
        · refine ⟨?_, rfl⟩
          unfold zmS
          rw [zseq_f e2 _ (by omega), Bool.and_false]
          rfl
    exact key (I 117 a).toNat 0 (by omega) rfl
  · refine ⟨?_, rfl⟩
    unfold zmS
    rw [show (I 117 a == I 117 b) = false from beq_false_of_ne e]
    rfl
theorem zb_le (x : Bool) : 0 ≤ zb x ∧ zb x ≤ 1 := by cases x <;> decide
abbrev rm_X4_sameAtFront : Room := { frames := 1, cells := 0, slots := 0, locals := 25 }
set_option maxRecDepth 100000 in
set_option maxHeartbeats 4000000 in
theorem s_X4_sameAtFront_0 {G : zCx} {F : zFr} {I : zStore} {post : Option Value → zStore → Prop}{a : Int} {b : Int} (hG : zOK G "LineLearnerModel" cX4_sameAtFront 4) (hR : zRoom G rm_X4_sameAtFront) (hE : zRetI G F cX4_sameAtFront 0 0 post) (hL : zLayM F) (hr : zRg I) (h1 : -2147483648 ≤ a ∧ a < 2147483648) (h2 : -2147483648 ≤ b ∧ b < 2147483648) (hn : 0 ≤ I 110 3 ∧ I 110 3 ≤ 12)
    (k1 : (¬ (0 ≤ a ∧ a < I 110 3)) → post (some (.int (zI 0))) (zup (zup I 110 0 0) 110 0 1))
    (k2 : (0 ≤ a ∧ a < I 110 3) → (0 ≤ b ∧ b < I 110 3) → zW G F 0 0 (zup I 110 0 0) [(0, .ref (F.1 110)), (1, .int (zI a)), (2, .int (zI b)), (3, .int (zI 0))] [] 29)
    (k3 : (0 ≤ a ∧ a < I 110 3) → (¬ (0 ≤ b ∧ b < I 110 3)) → post (some (.int (zI 0))) (zup (zup I 110 0 0) 110 0 1)) :
    zW G F 0 0 I [(0, .ref (F.1 110)), (1, .int (zI a)), (2, .int (zI b))] [] 0 := by
  refine z_aload_n 0 hG dX4_sameAtFront_0 rfl rfl ?_
  refine z_iconst 0 hG dX4_sameAtFront_1 ?_
  refine z_putI hG zcl4 (zltM hL (by decide)) (zl110 hL) 0 (by decide) (ki := 0) rfl rfl kw677 rfl rfl dX4_sameAtFront_2 ?_
  refine z_aload_n 0 hG dX4_sameAtFront_5 rfl rfl ?_
  refine z_iload_n 1 hG dX4_sameAtFront_6 rfl rfl ?_
  refine z_callV [.int (zI a)] hG hR (c_X4_isLine hL (zRg_up hr (by decide)) (by first | assumption | omega | ((try simp only [zup_k, zup_i, zup_at, ne_eq, not_false_eq_true, Nat.reduceEqDiff]); simp only [zup_at]; omega))) hd_X4_isLine kw787 kw789 kp24 rfl (zltM hL (by decide)) (zl110 hL) (by decide) (by decide) (by decide) (by decide) rfl rfl (Nat.le_of_ble_eq_true rfl) dX4_sameAtFront_7 (fun r I' hp => ?_)
  rw [hp.1, hp.2]
  show zW G F 0 0 (zup I 110 0 0) [(0, .ref (F.1 110)), (1, .int (zI a)), (2, .int (zI b))] [.int (zI (if 0 ≤ a ∧ a < I 110 3 then 1 else 0))] 10
  refine z_if_eq (tgt := 21) hG dX4_sameAtFront_10 (by decide) (by omega) (fun c10 => ?_) (fun c10 => ?_)
  · skip
    have c10b := zif_n c10
    refine z_aload_n 0 hG dX4_sameAtFront_21 rfl rfl ?_
    refine z_iconst 1 hG dX4_sameAtFront_22 ?_
    refine z_callV [.int (zI 1)] hG hR (c_X4_fail hL (zRg_up hr (by decide)) (by first | assumption | omega | ((try simp only [zup_k, zup_i, zup_at, ne_eq, not_false_eq_true, Nat.reduceEqDiff]); simp only [zup_at]; omega))) hd_X4_fail kw772 kw774 kp23 rfl (zltM hL (by decide)) (zl110 hL) (by decide) (by decide) (by decide) (by decide) rfl rfl (Nat.le_of_ble_eq_true rfl) dX4_sameAtFront_23 (fun r I' hp => ?_)
    rw [hp.1, hp.2]
    show zW G F 0 0 (zup (zup I 110 0 0) 110 0 1) [(0, .ref (F.1 110)), (1, .int (zI a)), (2, .int (zI b))] [.int (zI 0)] 26
    exact hE _ _ _ _ dX4_sameAtFront_26 (k1 c10b)
  · skip
    have c10b := zif_y c10
    refine z_aload_n 0 hG dX4_sameAtFront_13 rfl rfl ?_
    refine z_iload_n 2 hG dX4_sameAtFront_14 rfl rfl ?_
    refine z_callV [.int (zI b)] hG hR (c_X4_isLine hL (zRg_up hr (by decide)) (by first | assumption | omega | ((try simp only [zup_k, zup_i, zup_at, ne_eq, not_false_eq_true, Nat.reduceEqDiff]); simp only [zup_at]; omega))) hd_X4_isLine kw787 kw789 kp24 rfl (zltM hL (by decide)) (zl110 hL) (by decide) (by decide) (by decide) (by decide) rfl rfl (Nat.le_of_ble_eq_true rfl) dX4_sameAtFront_15 (fun r I' hp => ?_)
    rw [hp.1, hp.2]
    show zW G F 0 0 (zup I 110 0 0) [(0, .ref (F.1 110)), (1, .int (zI a)), (2, .int (zI b))] [.int (zI (if 0 ≤ b ∧ b < I 110 3 then 1 else 0))] 18
    refine z_if_ne (tgt := 27) hG dX4_sameAtFront_18 (by decide) (by omega) (fun c18 => ?_) (fun c18 => ?_)
    · skip
      have c18b := zif_y c18
      refine z_iconst 0 hG dX4_sameAtFront_27 ?_
      refine z_istore_n (lv' := [(3, .int (zI 0)), (0, .ref (F.1 110)), (1, .int (zI a)), (2, .int (zI b))]) hG dX4_sameAtFront_28 rfl (by decide) rfl ?_
      refine z_perm (lv' := [(0, .ref (F.1 110)), (1, .int (zI a)), (2, .int (zI b)), (3, .int (zI 0))]) [1, 2, 3, 0] rfl ?_
      exact k2 c10b c18b
    · skip
      have c18b := zif_n c18
      refine z_aload_n 0 hG dX4_sameAtFront_21 rfl rfl ?_
      refine z_iconst 1 hG dX4_sameAtFront_22 ?_
      refine z_callV [.int (zI 1)] hG hR (c_X4_fail hL (zRg_up hr (by decide)) (by first | assumption | omega | ((try simp only [zup_k, zup_i, zup_at, ne_eq, not_false_eq_true, Nat.reduceEqDiff]); simp only [zup_at]; omega))) hd_X4_fail kw772 kw774 kp23 rfl (zltM hL (by decide)) (zl110 hL) (by decide) (by decide) (by decide) (by decide) rfl rfl (Nat.le_of_ble_eq_true rfl) dX4_sameAtFront_23 (fun r I' hp => ?_)
      rw [hp.1, hp.2]
      show zW G F 0 0 (zup (zup I 110 0 0) 110 0 1) [(0, .ref (F.1 110)), (1, .int (zI a)), (2, .int (zI b))] [.int (zI 0)] 26
      exact hE _ _ _ _ dX4_sameAtFront_26 (k3 c10b c18b)

set_option maxRecDepth 100000 in
set_option maxHeartbeats 4000000 in
theorem s_X4_sameAtFront_29 {G : zCx} {F : zFr} {I : zStore} {post : Option Value → zStore → Prop}{a b i : Int} (hG : zOK G "LineLearnerModel" cX4_sameAtFront 4) (hR : zRoom G rm_X4_sameAtFront) (hE : zRetI G F cX4_sameAtFront 0 0 post) (hL : zLayM F) (hr : zRg I) (ha : 0 ≤ a ∧ a < 12) (hb : 0 ≤ b ∧ b < 12) (h1 : 0 ≤ i ∧ i ≤ 30) (hm : ∀ _u : Unit, i < I 114 a → i < I 114 b → zmT I (30 * a + i) ∧ zmT I (30 * b + i) ∧ i < 30)
    (k1 : ((I 114 a) ≤ i) → post (some (.int (zI i))) I)
    (k2 : (i < (I 114 a)) → ((I 114 b) ≤ i) → post (some (.int (zI i))) I)
    (k3 : (i < (I 114 a)) → (i < (I 114 b)) → ((zb (zmS (I 117) (I 116) (I 113) ((30 * a) + i) ((30 * b) + i))) = 0) → post (some (.int (zI i))) I)
    (k4 : (i < (I 114 a)) → (i < (I 114 b)) → ((zb (zmS (I 117) (I 116) (I 113) ((30 * a) + i) ((30 * b) + i))) ≠ 0) → zW G F 0 0 I [(0, .ref (F.1 110)), (1, .int (zI a)), (2, .int (zI b)), (3, .int (zI (i + 1)))] [] 29) :
    zW G F 0 0 I [(0, .ref (F.1 110)), (1, .int (zI a)), (2, .int (zI b)), (3, .int (zI i))] [] 29 := by
  refine z_iload_n 3 hG dX4_sameAtFront_29 rfl rfl ?_
  refine z_aload_n 0 hG dX4_sameAtFront_30 rfl rfl ?_
  refine z_getR (t := 114) hG zcl4 (zltM hL (by decide)) (zl110 hL) 6 (by decide) rfl kw683 dX4_sameAtFront_31 ?_
  refine z_iload_n 1 hG dX4_sameAtFront_34 rfl rfl ?_
  refine z_iald (v := I 114 a) hG (zltM hL (by decide)) (zl114 hL) (by decide) (by omega) rfl dX4_sameAtFront_35 ?_
  refine z_icmp_ge (tgt := 74) hG dX4_sameAtFront_36 (by decide) (by omega) (hr _ _) (fun c36 => ?_) (fun c36 => ?_)
  · skip
    refine z_iload_n 3 hG dX4_sameAtFront_74 rfl rfl ?_
    exact hE _ _ _ _ dX4_sameAtFront_75 (k1 c36)
  · skip
    refine z_iload_n 3 hG dX4_sameAtFront_39 rfl rfl ?_
    refine z_aload_n 0 hG dX4_sameAtFront_40 rfl rfl ?_
    refine z_getR (t := 114) hG zcl4 (zltM hL (by decide)) (zl110 hL) 6 (by decide) rfl kw683 dX4_sameAtFront_41 ?_
    refine z_iload_n 2 hG dX4_sameAtFront_44 rfl rfl ?_
    refine z_iald (v := I 114 b) hG (zltM hL (by decide)) (zl114 hL) (by decide) (by omega) rfl dX4_sameAtFront_45 ?_
    refine z_icmp_ge (tgt := 74) hG dX4_sameAtFront_46 (by decide) (by omega) (hr _ _) (fun c46 => ?_) (fun c46 => ?_)
    · skip
      refine z_iload_n 3 hG dX4_sameAtFront_74 rfl rfl ?_
      exact hE _ _ _ _ dX4_sameAtFront_75 (k2 c36 c46)
    · skip
      refine z_aload_n 0 hG dX4_sameAtFront_49 rfl rfl ?_
      refine z_bipush 30 hG dX4_sameAtFront_50 (by decide) ?_
      refine z_iload_n 1 hG dX4_sameAtFront_52 rfl rfl ?_
      refine z_imul hG dX4_sameAtFront_53 ?_
      refine z_iload_n 3 hG dX4_sameAtFront_54 rfl rfl ?_
      refine z_iadd hG dX4_sameAtFront_55 ?_
      refine z_bipush 30 hG dX4_sameAtFront_56 (by decide) ?_
      refine z_iload_n 2 hG dX4_sameAtFront_58 rfl rfl ?_
      refine z_imul hG dX4_sameAtFront_59 ?_
      refine z_iload_n 3 hG dX4_sameAtFront_60 rfl rfl ?_
      refine z_iadd hG dX4_sameAtFront_61 ?_
      refine z_callV [.int (zI ((30 * a) + i)), .int (zI ((30 * b) + i))] hG hR (c_X4_areSame hL hr (hm () c36 c46).1 (hm () c36 c46).2.1) hd_X4_areSame kw807 kw809 kp26 rfl (zltM hL (by decide)) (zl110 hL) (by decide) (by decide) (by decide) (by decide) rfl rfl (Nat.le_of_ble_eq_true rfl) dX4_sameAtFront_62 (fun r I' hp => ?_)
      rw [hp.1, hp.2]
      have ha62_0 : 0 ≤ (zb (zmS (I 117) (I 116) (I 113) ((30 * a) + i) ((30 * b) + i))) ∧ (zb (zmS (I 117) (I 116) (I 113) ((30 * a) + i) ((30 * b) + i))) ≤ 1 := zb_le _
      show zW G F 0 0 I [(0, .ref (F.1 110)), (1, .int (zI a)), (2, .int (zI b)), (3, .int (zI i))] [.int (zI (zb (zmS (I 117) (I 116) (I 113) ((30 * a) + i) ((30 * b) + i))))] 65
      refine z_if_eq (tgt := 74) hG dX4_sameAtFront_65 (by decide) (by omega) (fun c65 => ?_) (fun c65 => ?_)
      · skip
        refine z_iload_n 3 hG dX4_sameAtFront_74 rfl rfl ?_
        exact hE _ _ _ _ dX4_sameAtFront_75 (k3 c36 c46 c65)
      · skip
        have q9 := (hm () c36 c46).2.2
        refine z_iinc (lv' := [(3, .int (zI (i + 1))), (0, .ref (F.1 110)), (1, .int (zI a)), (2, .int (zI b))]) 3 hG dX4_sameAtFront_68 rfl (by decide) rfl ?_
        refine z_goto (tgt := 29) hG dX4_sameAtFront_71 (by decide) ?_
        refine z_perm (lv' := [(0, .ref (F.1 110)), (1, .int (zI a)), (2, .int (zI b)), (3, .int (zI (i + 1)))]) [1, 2, 3, 0] rfl ?_
        exact k4 c36 c46 c65

theorem zb0 {x : Bool} (h : zb x = 0) : x = false := by
  cases x
  · rfl
  · cases h
theorem zb1_ {x : Bool} (h : zb x ≠ 0) : x = true := by
  cases x
  · exact absurd rfl h
  · rfl
/-- the model's number of tokens that are alike at the front -/
def zmFr (I : zStore) (a b : Int) : Nat := fa_first (fun t => !zmS (I 117) (I 116) (I 113) (30 * a + t) (30 * b + t)) (min (I 114 a) (I 114 b)).toNat
set_option maxHeartbeats 4000000 in
theorem c_X4_sameAtFront {F : zFr} {I : zStore} {a b : Int} (hL : zLayM F) (hr : zRg I) (h1 : -2147483648 ≤ a ∧ a < 2147483648) (h2 : -2147483648 ≤ b ∧ b < 2147483648) (hn : 0 ≤ I 110 3 ∧ I 110 3 ≤ 12) (hm : ∀ l : Int, 0 ≤ l → l < I 110 3 → 0 ≤ I 114 l ∧ I 114 l ≤ 30 ∧ ∀ t : Int, 0 ≤ t → t < I 114 l → zmT I (30 * l + t)) : ∀ (l : Launch) (D : va_G) (cs : Nat → ClassId), l.stackTraces = false → zMt l yX4_sameAtFront cX4_sameAtFront 4 (some .int) rm_X4_sameAtFront D cs F I [.ref (F.1 110), .int (zI a), .int (zI b)] (fun r I' => r = some (.int (zI (if (0 ≤ a ∧ a < I 110 3) ∧ 0 ≤ b ∧ b < I 110 3 then (zmFr I a b : Int) else 0))) ∧ I' = zup I 110 0 (if (0 ≤ a ∧ a < I 110 3) ∧ 0 ≤ b ∧ b < I 110 3 then 0 else 1)) := by
  intro l D cs hst
  refine zMt.ofI hst (by decide +kernel) (Nat.le_of_ble_eq_true rfl) fun G hG hR hE => ?_
  have out : ¬ ((0 ≤ a ∧ a < I 110 3) ∧ 0 ≤ b ∧ b < I 110 3) → some (Value.int (zI 0)) = some (Value.int (zI (if (0 ≤ a ∧ a < I 110 3) ∧ 0 ≤ b ∧ b < I 110 3 then (zmFr I a b : Int) else 0))) ∧ zup (zup I 110 0 0) 110 0 1 = zup I 110 0 (if (0 ≤ a ∧ a < I 110 3) ∧ 0 ≤ b ∧ b < I 110 3 then 0 else 1) := fun q => by
    rw [if_neg q, if_neg q]
    exact ⟨rfl, zup_up _ _ _ _ _⟩
  refine s_X4_sameAtFront_0 hG hR hE hL hr h1 h2 hn (fun e => out (fun q => e q.1)) (fun e e2 => ?_) (fun e e2 => out (fun q => e2 q.2))
  rw [if_pos ⟨e, e2⟩, if_pos ⟨e, e2⟩] at hE
  obtain ⟨m1, m2, m3⟩ := hm a e.1 e.2
  obtain ⟨n1, n2, n3⟩ := hm b e2.1 e2.2
  have fdef : zmFr I a b = fa_first (fun t => !zmS (I 117) (I 116) (I 113) (30 * a + t) (30 * b + t)) (min (I 114 a) (I 114 b)).toNat := rfl
  have fin : ∀ k : Nat, k ≤ (min (I 114 a) (I 114 b)).toNat → (∀ j : Nat, j < k → zmS (I 117) (I 116) (I 113) (30 * a + j) (30 * b + j) = true) → (k < (min (I 114 a) (I 114 b)).toNat → zmS (I 117) (I 116) (I 113) (30 * a + k) (30 * b + k) = false) → zmFr I a b = k := fun k hk hs hf => by
    rw [fdef]
    rcases Nat.lt_or_ge k (min (I 114 a) (I 114 b)).toNat with q | q
    · exact fa_first_eq q (by simp only [hf q, Bool.not_false]) (fun j hj => by simp only [hs j hj, Bool.not_true])
    · have e9 : k = (min (I 114 a) (I 114 b)).toNat := by omega
      rw [e9]
      exact fa_first_all (fun j hj => by simp only [hs j (by omega), Bool.not_true])
  have key : ∀ (d k : Nat), (k : Int) + d = min (I 114 a) (I 114 b) → (∀ j : Nat, j < k → zmS (I 117) (I 116) (I 113) (30 * a + j) (30 * b + j) = true) → zW G F 0 0 (zup I 110 0 0) [(0, .ref (F.1 110)), (1, .int (zI a)), (2, .int (zI b)), (3, .int (zI k))] [] 29 := by
    intro d
    induction d with
    | zero =>
      intro k hk hs
      have done : some (Value.int (zI k)) = some (Value.int (zI (zmFr I a b : Int))) ∧ zup I 110 0 0 = zup I 110 0 0 := by
        rw [fin k (by omega) hs (fun q => absurd q (by omega))]
        exact ⟨rfl, rfl⟩
      refine s_X4_sameAtFront_29 hG hR hE hL (zRg_up hr (by decide)) (by omega) (by omega) (by omega) (fun _ q1 q2 => ⟨m3 k (by omega) q1, n3 k (by omega) q2, (by have q3 : (k : Int) < I 114 a := q1; omega)⟩) (fun _ => ?_) (fun _ _ => ?_) (fun q1 q2 => absurd (show (k : Int) < I 114 a from q1) (by have q3 : (k : Int) < I 114 b := q2; omega)) (fun q1 q2 => absurd (show (k : Int) < I 114 a from q1) (by have q3 : (k : Int) < I 114 b := q2; omega))
      · exact done
      · exact done
    | succ d ih =>
      intro k hk hs
      refine s_X4_sameAtFront_29 hG hR hE hL (zRg_up hr (by decide)) (by omega) (by omega) (by omega) (fun _ q1 q2 => ⟨m3 k (by omega) q1, n3 k (by omega) q2, (by have q3 : (k : Int) < I 114 a := q1; omega)⟩) (fun q => absurd (show I 114 a ≤ (k : Int) from q) (by omega)) (fun _ q => absurd (show I 114 b ≤ (k : Int) from q) (by omega)) (fun _ _ q3 => ?_) (fun _ _ q3 => ?_)
      · have q4 := zb0 q3
        refine ⟨?_, rfl⟩
        rw [fin k (by omega) hs (fun _ => q4)]
      · have q4 := zb1_ q3
        refine ih (k + 1) (by omega) (fun j hj => ?_)
        by_cases e9 : j = k
        · subst e9
          exact q4
        · exact hs j (by omega)
  exact key (min (I 114 a) (I 114 b)).toNat 0 (by omega) (fun j hj => absurd hj (by omega))
abbrev rm_X4_usesOf : Room := { frames := 2, cells := 0, slots := 0, locals := 44 }
set_option maxRecDepth 100000 in
set_option maxHeartbeats 4000000 in
theorem s_X4_usesOf_0 {G : zCx} {F : zFr} {I : zStore} {post : Option Value → zStore → Prop}{f : Int} {s : Int} (hG : zOK G "LineLearnerModel" cX4_usesOf 5) (hR : zRoom G rm_X4_usesOf) (hE : zRetI G F cX4_usesOf 0 0 post) (hL : zLayM F) (hr : zRg I)
    (k1 : zW G F 0 0 I [(0, .ref (F.1 110)), (1, .int (zI f)), (2, .int (zI s)), (3, .int (zI 0)), (4, .int (zI 0))] [] 5) :
    zW G F 0 0 I [(0, .ref (F.1 110)), (1, .int (zI f)), (2, .int (zI s))] [] 0 := by
  refine z_iconst 0 hG dX4_usesOf_0 ?_
  refine z_istore_n (lv' := [(3, .int (zI 0)), (0, .ref (F.1 110)), (1, .int (zI f)), (2, .int (zI s))]) hG dX4_usesOf_1 rfl (by decide) rfl ?_
  refine z_iconst 0 hG dX4_usesOf_2 ?_
  refine z_istore (lv' := [(4, .int (zI 0)), (3, .int (zI 0)), (0, .ref (F.1 110)), (1, .int (zI f)), (2, .int (zI s))]) hG dX4_usesOf_3 (by decide) rfl ?_
  refine z_perm (lv' := [(0, .ref (F.1 110)), (1, .int (zI f)), (2, .int (zI s)), (3, .int (zI 0)), (4, .int (zI 0))]) [2, 3, 4, 1, 0] rfl ?_
  exact k1

set_option maxRecDepth 100000 in
set_option maxHeartbeats 4000000 in
theorem s_X4_usesOf_5 {G : zCx} {F : zFr} {I : zStore} {post : Option Value → zStore → Prop}{f s n i : Int} (hG : zOK G "LineLearnerModel" cX4_usesOf 5) (hR : zRoom G rm_X4_usesOf) (hE : zRetI G F cX4_usesOf 0 0 post) (hL : zLayM F) (hr : zRg I) (h1 : 0 ≤ f ∧ f < 13) (h2 : 0 ≤ s ∧ s < 40) (h3 : 0 ≤ i ∧ i ≤ 12) (hn : 0 ≤ I 110 3 ∧ I 110 3 ≤ 12)
    (k1 : ((I 110 3) ≤ i) → post (some (.int (zI n))) I)
    (k2 : (i < (I 110 3)) → ((I 122 (12 * (40 * f + s) + i)) ≠ (-1)) → zW G F 0 0 I [(0, .ref (F.1 110)), (1, .int (zI f)), (2, .int (zI s)), (3, .int (zI (n + 1))), (4, .int (zI (i + 1)))] [] 5)
    (k3 : (i < (I 110 3)) → ((I 122 (12 * (40 * f + s) + i)) = (-1)) → zW G F 0 0 I [(0, .ref (F.1 110)), (1, .int (zI f)), (2, .int (zI s)), (3, .int (zI (n + 0))), (4, .int (zI (i + 1)))] [] 5) :
    zW G F 0 0 I [(0, .ref (F.1 110)), (1, .int (zI f)), (2, .int (zI s)), (3, .int (zI n)), (4, .int (zI i))] [] 5 := by
  refine z_iload 4 hG dX4_usesOf_5 rfl ?_
  refine z_aload_n 0 hG dX4_usesOf_7 rfl rfl ?_
  refine z_getI (v := I 110 3) hG zcl4 (zltM hL (by decide)) (zl110 hL) 3 (by decide) rfl rfl rfl kw680 dX4_usesOf_8 ?_
  refine z_icmp_ge (tgt := 40) hG dX4_usesOf_11 (by decide) (by omega) (hr _ _) (fun c11 => ?_) (fun c11 => ?_)
  · skip
    refine z_iload_n 3 hG dX4_usesOf_40 rfl rfl ?_
    exact hE _ _ _ _ dX4_usesOf_41 (k1 c11)
  · skip
    refine z_iload_n 3 hG dX4_usesOf_14 rfl rfl ?_
    refine z_aload_n 0 hG dX4_usesOf_15 rfl rfl ?_
    refine z_iload_n 1 hG dX4_usesOf_16 rfl rfl ?_
    refine z_iload_n 2 hG dX4_usesOf_17 rfl rfl ?_
    refine z_iload 4 hG dX4_usesOf_18 rfl ?_
    refine z_callV [.int (zI f), .int (zI s), .int (zI i)] hG hR (c_X4_tokenOf hL hr (by first | assumption | omega | ((try simp only [zup_k, zup_i, zup_at, ne_eq, not_false_eq_true, Nat.reduceEqDiff]); simp only [zup_at]; omega)) (by first | assumption | omega | ((try simp only [zup_k, zup_i, zup_at, ne_eq, not_false_eq_true, Nat.reduceEqDiff]); simp only [zup_at]; omega)) (by first | assumption | omega | ((try simp only [zup_k, zup_i, zup_at, ne_eq, not_false_eq_true, Nat.reduceEqDiff]); simp only [zup_at]; omega))) hd_X4_tokenOf kw844 kw846 kp31 rfl (zltM hL (by decide)) (zl110 hL) (by decide) (by decide) (by decide) (by decide) rfl rfl (Nat.le_of_ble_eq_true rfl) dX4_usesOf_20 (fun r I' hp => ?_)
    rw [hp.1, hp.2]
    show zW G F 0 0 I [(0, .ref (F.1 110)), (1, .int (zI f)), (2, .int (zI s)), (3, .int (zI n)), (4, .int (zI i))] [.int (zI (I 122 (12 * (40 * f + s) + i))), .int (zI n)] 23
    refine z_iconst (-1) hG dX4_usesOf_23 ?_
    refine z_icmp_ne (tgt := 31) hG dX4_usesOf_24 (by decide) (hr _ _) (by decide) (fun c24 => ?_) (fun c24 => ?_)
    · skip
      refine z_iconst 1 hG dX4_usesOf_31 ?_
      refine z_iadd hG dX4_usesOf_32 ?_
      refine z_istore_n (lv' := [(3, .int (zI (n + 1))), (0, .ref (F.1 110)), (1, .int (zI f)), (2, .int (zI s)), (4, .int (zI i))]) hG dX4_usesOf_33 rfl (by decide) rfl ?_
      refine z_iinc (lv' := [(4, .int (zI (i + 1))), (3, .int (zI (n + 1))), (0, .ref (F.1 110)), (1, .int (zI f)), (2, .int (zI s))]) 4 hG dX4_usesOf_34 rfl (by decide) rfl ?_
      refine z_goto (tgt := 5) hG dX4_usesOf_37 (by decide) ?_
      refine z_perm (lv' := [(0, .ref (F.1 110)), (1, .int (zI f)), (2, .int (zI s)), (3, .int (zI (n + 1))), (4, .int (zI (i + 1)))]) [2, 3, 4, 1, 0] rfl ?_
      exact k2 c11 c24
    · skip
      refine z_iconst 0 hG dX4_usesOf_27 ?_
      refine z_goto (tgt := 32) hG dX4_usesOf_28 (by decide) ?_
      refine z_iadd hG dX4_usesOf_32 ?_
      refine z_istore_n (lv' := [(3, .int (zI (n + 0))), (0, .ref (F.1 110)), (1, .int (zI f)), (2, .int (zI s)), (4, .int (zI i))]) hG dX4_usesOf_33 rfl (by decide) rfl ?_
      refine z_iinc (lv' := [(4, .int (zI (i + 1))), (3, .int (zI (n + 0))), (0, .ref (F.1 110)), (1, .int (zI f)), (2, .int (zI s))]) 4 hG dX4_usesOf_34 rfl (by decide) rfl ?_
      refine z_goto (tgt := 5) hG dX4_usesOf_37 (by decide) ?_
      refine z_perm (lv' := [(0, .ref (F.1 110)), (1, .int (zI f)), (2, .int (zI s)), (3, .int (zI (n + 0))), (4, .int (zI (i + 1)))]) [2, 3, 4, 1, 0] rfl ?_
      exact k3 c11 c24

/-- how many of the first l lines have used the slot s of the format f -/
def zmu (u : Int → Int) (f s : Int) : Nat → Int
  | 0 => 0
  | l + 1 => zmu u f s l + if u (12 * (40 * f + s) + l) = (-1) then 0 else 1
theorem zmu_bd (u : Int → Int) (f s : Int) : ∀ l : Nat, 0 ≤ zmu u f s l ∧ zmu u f s l ≤ l
  | 0 => by simp [zmu]
  | l + 1 => by
    have := zmu_bd u f s l
    simp only [zmu]
    split <;> omega
set_option maxHeartbeats 4000000 in
theorem c_X4_usesOf {F : zFr} {I : zStore} {f s : Int} (hL : zLayM F) (hr : zRg I) (h1 : 0 ≤ f ∧ f < 13) (h2 : 0 ≤ s ∧ s < 40) (hn : 0 ≤ I 110 3 ∧ I 110 3 ≤ 12) : ∀ (l : Launch) (D : va_G) (cs : Nat → ClassId), l.stackTraces = false → zMt l yX4_usesOf cX4_usesOf 5 (some .int) rm_X4_usesOf D cs F I [.ref (F.1 110), .int (zI f), .int (zI s)] (fun r I' => r = some (.int (zI (zmu (I 122) f s (I 110 3).toNat))) ∧ I' = I) := by
  intro l D cs hst
  refine zMt.ofI hst (by decide +kernel) (Nat.le_of_ble_eq_true rfl) fun G hG hR hE => ?_
  refine s_X4_usesOf_0 hG hR hE hL hr ?_
  have key : ∀ (d k : Nat), (k : Int) + d = I 110 3 → zW G F 0 0 I [(0, .ref (F.1 110)), (1, .int (zI f)), (2, .int (zI s)), (3, .int (zI (zmu (I 122) f s k))), (4, .int (zI k))] [] 5 := by
    intro d
    induction d with
    | zero =>
      intro k hk
      refine s_X4_usesOf_5 hG hR hE hL hr h1 h2 (by omega) hn (fun _ => ⟨?_, rfl⟩) (fun q => absurd q (by omega)) (fun q => absurd q (by omega))
      rw [show (I 110 3).toNat = k by omega]
    | succ d ih =>
      intro k hk
      have h := ih (k + 1) (by omega)
      simp only [zmu] at h
      refine s_X4_usesOf_5 hG hR hE hL hr h1 h2 (by omega) hn (fun q => absurd q (by omega)) (fun _ q => ?_) (fun _ q => ?_)
      · rw [if_neg q] at h
        exact h
      · rw [if_pos q] at h
        exact h
  exact key (I 110 3).toNat 0 (by omega)
abbrev rm_X4_isFree : Room := { frames := 3, cells := 0, slots := 0, locals := 68 }
set_option maxRecDepth 100000 in
set_option maxHeartbeats 4000000 in
theorem s_X4_isFree {G : zCx} {F : zFr} {I : zStore} {post : Option Value → zStore → Prop}{f : Int} {s : Int} (hG : zOK G "LineLearnerModel" cX4_isFree 3) (hR : zRoom G rm_X4_isFree) (hE : zRetZ G F cX4_isFree 0 0 post) (hL : zLayM F) (hr : zRg I) (h1 : 0 ≤ f ∧ f < 13) (h2 : 0 ≤ s ∧ s < 40) (hn : 0 ≤ I 110 3 ∧ I 110 3 ≤ 12) (hk : 0 ≤ I 119 f ∧ I 119 f < 4096)
    (k1 : ((zbc (I 119 f)) ≤ (zmu (I 122) f s (I 110 3).toNat)) → post (some (.int (zI 0))) I)
    (k2 : ((zmu (I 122) f s (I 110 3).toNat) < (zbc (I 119 f))) → post (some (.int (zI 1))) I) :
    zW G F 0 0 I [(0, .ref (F.1 110)), (1, .int (zI f)), (2, .int (zI s))] [] 0 := by
  refine z_aload_n 0 hG dX4_isFree_0 rfl rfl ?_
  refine z_iload_n 1 hG dX4_isFree_1 rfl rfl ?_
  refine z_iload_n 2 hG dX4_isFree_2 rfl rfl ?_
  refine z_callV [.int (zI f), .int (zI s)] hG hR (c_X4_usesOf hL hr (by first | assumption | omega | ((try simp only [zup_k, zup_i, zup_at, ne_eq, not_false_eq_true, Nat.reduceEqDiff]); simp only [zup_at]; omega)) (by first | assumption | omega | ((try simp only [zup_k, zup_i, zup_at, ne_eq, not_false_eq_true, Nat.reduceEqDiff]); simp only [zup_at]; omega)) (by first | assumption | omega | ((try simp only [zup_k, zup_i, zup_at, ne_eq, not_false_eq_true, Nat.reduceEqDiff]); simp only [zup_at]; omega))) hd_X4_usesOf kw840 kw842 kp30 rfl (zltM hL (by decide)) (zl110 hL) (by decide) (by decide) (by decide) (by decide) rfl rfl (Nat.le_of_ble_eq_true rfl) dX4_isFree_3 (fun r I' hp => ?_)
  rw [hp.1, hp.2]
  have ha3_0 : 0 ≤ (zmu (I 122) f s (I 110 3).toNat) ∧ (zmu (I 122) f s (I 110 3).toNat) ≤ (I 110 3).toNat := zmu_bd _ _ _ _
  show zW G F 0 0 I [(0, .ref (F.1 110)), (1, .int (zI f)), (2, .int (zI s))] [.int (zI (zmu (I 122) f s (I 110 3).toNat))] 6
  refine z_aload_n 0 hG dX4_isFree_6 rfl rfl ?_
  refine z_getR (t := 119) hG zcl4 (zltM hL (by decide)) (zl110 hL) 14 (by decide) rfl kw691 dX4_isFree_7 ?_
  refine z_iload_n 1 hG dX4_isFree_10 rfl rfl ?_
  refine z_iald (v := I 119 f) hG (zltM hL (by decide)) (zl119 hL) (by decide) (by omega) rfl dX4_isFree_11 ?_
  refine z_callS [.int (zI (I 119 f))] hG hR (c_J_bc hr (by first | assumption | omega | ((try simp only [zup_k, zup_i, zup_at, ne_eq, not_false_eq_true, Nat.reduceEqDiff]); simp only [zup_at]; omega))) hd_J_bc kw848 kw849 (by decide) (by decide) (by decide) (by decide) rfl rfl (Nat.le_of_ble_eq_true rfl) dX4_isFree_12 (fun r I' hp => ?_)
  rw [hp.1, hp.2]
  have ha12_0 : 0 ≤ (zbc (I 119 f)) ∧ (zbc (I 119 f)) ≤ 12 := zbc_bd _
  show zW G F 0 0 I [(0, .ref (F.1 110)), (1, .int (zI f)), (2, .int (zI s))] [.int (zI (zbc (I 119 f))), .int (zI (zmu (I 122) f s (I 110 3).toNat))] 15
  refine z_icmp_ge (tgt := 22) hG dX4_isFree_15 (by decide) (by omega) (by omega) (fun c15 => ?_) (fun c15 => ?_)
  · skip
    refine z_iconst 0 hG dX4_isFree_22 ?_
    exact hE _ _ _ _ dX4_isFree_23 (by first | decide | omega) (k1 c15)
  · skip
    refine z_iconst 1 hG dX4_isFree_18 ?_
    refine z_goto (tgt := 23) hG dX4_isFree_19 (by decide) ?_
    exact hE _ _ _ _ dX4_isFree_23 (by first | decide | omega) (k2 c15)

theorem c_X4_isFree {F : zFr} {I : zStore}  {f : Int} {s : Int}  (hL : zLayM F) (hr : zRg I) (h1 : 0 ≤ f ∧ f < 13) (h2 : 0 ≤ s ∧ s < 40) (hn : 0 ≤ I 110 3 ∧ I 110 3 ≤ 12) (hk : 0 ≤ I 119 f ∧ I 119 f < 4096) : ∀ (l : Launch) (D : va_G) (cs : Nat → ClassId), l.stackTraces = false → zMt l yX4_isFree cX4_isFree 3 (some .boolean) rm_X4_isFree D cs F I [.ref (F.1 110), .int (zI f), .int (zI s)] (fun r I' => r = some (.int (zI (if zmu (I 122) f s (I 110 3).toNat < zbc (I 119 f) then 1 else 0))) ∧ I' = I) :=
  fun l D cs hst => zMt.ofZ hst (by decide +kernel) (Nat.le_of_ble_eq_true rfl) fun G hG hR hE => s_X4_isFree hG hR hE hL hr h1 h2 hn hk
    (by intros; refine ⟨?_, ?_⟩ <;> (repeat' split) <;> first | rfl | (exfalso; omega) | exact zup_up _ _ _ _ _ | (simp only [zup_self]; done))
    (by intros; refine ⟨?_, ?_⟩ <;> (repeat' split) <;> first | rfl | (exfalso; omega) | exact zup_up _ _ _ _ _ | (simp only [zup_self]; done))
/-- what a step costs that ends ahead of the slot and the token; -1 if it can't be -/
def zco (I : zStore) (step f line slot token : Int) : Int :=
  if step = 0 then (if slot = 0 ∨ token = 0 then (-1) else if I 120 (40 * f + (slot - 1)) ≠ I 115 (((30 * line) + token) - 1) then (-1) else (I 124 (31 * (slot - 1) + (token - 1))) + (if I 121 (40 * f + (slot - 1)) = (-1) then 1 else if zmS (I 117) (I 116) (I 113) (I 121 (40 * f + (slot - 1))) (((30 * line) + token) - 1) = true then 0 else I 110 10))
  else if step = 1 then (if slot = 0 then (-1) else (I 124 (31 * (slot - 1) + token)) + (if zmu (I 122) f (slot - 1) (I 110 3).toNat < zbc (I 119 f) then 1 else I 110 11))
  else (if token = 0 then (-1) else (I 124 (31 * slot + (token - 1))) + (I 110 12))
abbrev rm_X4_costOf : Room := { frames := 4, cells := 0, slots := 0, locals := 90 }
set_option maxRecDepth 100000 in
set_option maxHeartbeats 4000000 in
theorem s_X4_costOf {G : zCx} {F : zFr} {I : zStore} {post : Option Value → zStore → Prop}{step : Int} {f : Int} {line : Int} {slot : Int} {token : Int} (hG : zOK G "LineLearnerModel" cX4_costOf 8) (hR : zRoom G rm_X4_costOf) (hE : zRetI G F cX4_costOf 0 0 post) (hL : zLayM F) (hr : zRg I) (h0 : 0 ≤ step ∧ step ≤ 2) (h1 : 0 ≤ f ∧ f < 13) (h2 : 0 ≤ line ∧ line < 12) (h3 : 0 ≤ slot ∧ slot ≤ 40) (h4 : 0 ≤ token ∧ token ≤ 30) (hn : 0 ≤ I 110 3 ∧ I 110 3 ≤ 12) (hk : 0 ≤ I 119 f ∧ I 119 f < 4096) (h5 : ∀ _u : Unit, slot ≠ 0 → I 121 (40 * f + (slot - 1)) ≠ (-1) → zmT I (I 121 (40 * f + (slot - 1)))) (h6 : ∀ _u : Unit, token ≠ 0 → zmT I (((30 * line) + token) - 1)) (h7 : 0 ≤ I 110 10 ∧ I 110 10 ≤ 20) (h8 : 0 ≤ I 110 11 ∧ I 110 11 ≤ 20) (h9 : 0 ≤ I 110 12 ∧ I 110 12 ≤ 20)
    (k1 : (step ≠ 0) → (step ≠ 1) → (token ≠ 0) → post (some (.int (zI ((I 124 (31 * slot + (token - 1))) + (I 110 12))))) I)
    (k2 : (step ≠ 0) → (step ≠ 1) → (token = 0) → post (some (.int (zI (-1)))) I)
    (k3 : (step ≠ 0) → (step = 1) → (slot ≠ 0) → (¬ (zmu (I 122) f (slot - 1) (I 110 3).toNat < zbc (I 119 f))) → post (some (.int (zI ((I 124 (31 * (slot - 1) + token)) + (I 110 11))))) I)
    (k4 : (step ≠ 0) → (step = 1) → (slot ≠ 0) → (zmu (I 122) f (slot - 1) (I 110 3).toNat < zbc (I 119 f)) → post (some (.int (zI ((I 124 (31 * (slot - 1) + token)) + 1)))) I)
    (k5 : (step ≠ 0) → (step = 1) → (slot = 0) → post (some (.int (zI (-1)))) I)
    (k6 : (step = 0) → (slot = 0) → post (some (.int (zI (-1)))) I)
    (k7 : (step = 0) → (slot ≠ 0) → (token ≠ 0) → ((I 120 (40 * f + (slot - 1))) = (I 115 (((30 * line) + token) - 1))) → ((I 121 (40 * f + (slot - 1))) ≠ (-1)) → ((zb (zmS (I 117) (I 116) (I 113) (I 121 (40 * f + (slot - 1))) (((30 * line) + token) - 1))) = 0) → post (some (.int (zI ((I 124 (31 * (slot - 1) + (token - 1))) + (I 110 10))))) I)
    (k8 : (step = 0) → (slot ≠ 0) → (token ≠ 0) → ((I 120 (40 * f + (slot - 1))) = (I 115 (((30 * line) + token) - 1))) → ((I 121 (40 * f + (slot - 1))) ≠ (-1)) → ((zb (zmS (I 117) (I 116) (I 113) (I 121 (40 * f + (slot - 1))) (((30 * line) + token) - 1))) ≠ 0) → post (some (.int (zI ((I 124 (31 * (slot - 1) + (token - 1))) + 0)))) I)
    (k9 : (step = 0) → (slot ≠ 0) → (token ≠ 0) → ((I 120 (40 * f + (slot - 1))) = (I 115 (((30 * line) + token) - 1))) → ((I 121 (40 * f + (slot - 1))) = (-1)) → post (some (.int (zI ((I 124 (31 * (slot - 1) + (token - 1))) + 1)))) I)
    (k10 : (step = 0) → (slot ≠ 0) → (token ≠ 0) → ((I 120 (40 * f + (slot - 1))) ≠ (I 115 (((30 * line) + token) - 1))) → post (some (.int (zI (-1)))) I)
    (k11 : (step = 0) → (slot ≠ 0) → (token = 0) → post (some (.int (zI (-1)))) I) :
    zW G F 0 0 I [(0, .ref (F.1 110)), (1, .int (zI step)), (2, .int (zI f)), (3, .int (zI line)), (4, .int (zI slot)), (5, .int (zI token))] [] 0 := by
  refine z_iload_n 1 hG dX4_costOf_0 rfl rfl ?_
  refine z_if_ne (tgt := 113) hG dX4_costOf_1 (by decide) (by omega) (fun c1 => ?_) (fun c1 => ?_)
  · skip
    refine z_iload_n 1 hG dX4_costOf_113 rfl rfl ?_
    refine z_iconst 1 hG dX4_costOf_114 ?_
    refine z_icmp_ne (tgt := 163) hG dX4_costOf_115 (by decide) (by omega) (by decide) (fun c115 => ?_) (fun c115 => ?_)
    · skip
      refine z_iload 5 hG dX4_costOf_163 rfl ?_
      refine z_if_ne (tgt := 172) hG dX4_costOf_165 (by decide) (by omega) (fun c165 => ?_) (fun c165 => ?_)
      · skip
        refine z_aload_n 0 hG dX4_costOf_172 rfl rfl ?_
        refine z_getR (t := 124) hG zcl4 (zltM hL (by decide)) (zl110 hL) 21 (by decide) rfl kw698 dX4_costOf_173 ?_
        refine z_iload 4 hG dX4_costOf_176 rfl ?_
        refine z_iload 5 hG dX4_costOf_178 rfl ?_
        refine z_iconst 1 hG dX4_costOf_180 ?_
        refine z_isub hG dX4_costOf_181 ?_
        refine z_callS [.int (zI slot), .int (zI (token - 1))] hG hR (c_X4_cell hr) hd_X4_cell kw833 kw834 (by decide) (by decide) (by decide) (by decide) rfl rfl (Nat.le_of_ble_eq_true rfl) dX4_costOf_182 (fun r I' hp => ?_)
        rw [hp.1, hp.2]
        show zW G F 0 0 I [(0, .ref (F.1 110)), (1, .int (zI step)), (2, .int (zI f)), (3, .int (zI line)), (4, .int (zI slot)), (5, .int (zI token))] [.int (zI (31 * slot + (token - 1))), .ref (F.1 124)] 185
        refine z_iald (v := I 124 (31 * slot + (token - 1))) hG (zltM hL (by decide)) (zl124 hL) (by decide) (by omega) rfl dX4_costOf_185 ?_
        refine z_aload_n 0 hG dX4_costOf_186 rfl rfl ?_
        refine z_getI (v := I 110 12) hG zcl4 (zltM hL (by decide)) (zl110 hL) 12 (by decide) rfl rfl rfl kw689 dX4_costOf_187 ?_
        refine z_iadd hG dX4_costOf_190 ?_
        exact hE _ _ _ _ dX4_costOf_191 (k1 c1 c115 c165)
      · skip
        refine z_iconst (-1) hG dX4_costOf_168 ?_
        refine z_goto (tgt := 191) hG dX4_costOf_169 (by decide) ?_
        exact hE _ _ _ _ dX4_costOf_191 (k2 c1 c115 c165)
    · skip
      refine z_iload 4 hG dX4_costOf_118 rfl ?_
      refine z_if_ne (tgt := 127) hG dX4_costOf_120 (by decide) (by omega) (fun c120 => ?_) (fun c120 => ?_)
      · skip
        refine z_aload_n 0 hG dX4_costOf_127 rfl rfl ?_
        refine z_getR (t := 124) hG zcl4 (zltM hL (by decide)) (zl110 hL) 21 (by decide) rfl kw698 dX4_costOf_128 ?_
        refine z_iload 4 hG dX4_costOf_131 rfl ?_
        refine z_iconst 1 hG dX4_costOf_133 ?_
        refine z_isub hG dX4_costOf_134 ?_
        refine z_iload 5 hG dX4_costOf_135 rfl ?_
        refine z_callS [.int (zI (slot - 1)), .int (zI token)] hG hR (c_X4_cell hr) hd_X4_cell kw833 kw834 (by decide) (by decide) (by decide) (by decide) rfl rfl (Nat.le_of_ble_eq_true rfl) dX4_costOf_137 (fun r I' hp => ?_)
        rw [hp.1, hp.2]
        show zW G F 0 0 I [(0, .ref (F.1 110)), (1, .int (zI step)), (2, .int (zI f)), (3, .int (zI line)), (4, .int (zI slot)), (5, .int (zI token))] [.int (zI (31 * (slot - 1) + token)), .ref (F.1 124)] 140
        refine z_iald (v := I 124 (31 * (slot - 1) + token)) hG (zltM hL (by decide)) (zl124 hL) (by decide) (by omega) rfl dX4_costOf_140 ?_
        refine z_aload_n 0 hG dX4_costOf_141 rfl rfl ?_
        refine z_iload_n 2 hG dX4_costOf_142 rfl rfl ?_
        refine z_iload 4 hG dX4_costOf_143 rfl ?_
        refine z_iconst 1 hG dX4_costOf_145 ?_
        refine z_isub hG dX4_costOf_146 ?_
        refine z_callV [.int (zI f), .int (zI (slot - 1))] hG hR (c_X4_isFree hL hr (by first | assumption | omega | ((try simp only [zup_k, zup_i, zup_at, ne_eq, not_false_eq_true, Nat.reduceEqDiff]); simp only [zup_at]; omega)) (by first | assumption | omega | ((try simp only [zup_k, zup_i, zup_at, ne_eq, not_false_eq_true, Nat.reduceEqDiff]); simp only [zup_at]; omega)) (by first | assumption | omega | ((try simp only [zup_k, zup_i, zup_at, ne_eq, not_false_eq_true, Nat.reduceEqDiff]); simp only [zup_at]; omega)) (by first | assumption | omega | ((try simp only [zup_k, zup_i, zup_at, ne_eq, not_false_eq_true, Nat.reduceEqDiff]); simp only [zup_at]; omega))) hd_X4_isFree kw836 kw838 kp29 rfl (zltM hL (by decide)) (zl110 hL) (by decide) (by decide) (by decide) (by decide) rfl rfl (Nat.le_of_ble_eq_true rfl) dX4_costOf_147 (fun r I' hp => ?_)
        rw [hp.1, hp.2]
        show zW G F 0 0 I [(0, .ref (F.1 110)), (1, .int (zI step)), (2, .int (zI f)), (3, .int (zI line)), (4, .int (zI slot)), (5, .int (zI token))] [.int (zI (if zmu (I 122) f (slot - 1) (I 110 3).toNat < zbc (I 119 f) then 1 else 0)), .int (zI (I 124 (31 * (slot - 1) + token)))] 150
        refine z_if_eq (tgt := 157) hG dX4_costOf_150 (by decide) (by omega) (fun c150 => ?_) (fun c150 => ?_)
        · skip
          have c150b := zif_n c150
          refine z_aload_n 0 hG dX4_costOf_157 rfl rfl ?_
          refine z_getI (v := I 110 11) hG zcl4 (zltM hL (by decide)) (zl110 hL) 11 (by decide) rfl rfl rfl kw688 dX4_costOf_158 ?_
          refine z_iadd hG dX4_costOf_161 ?_
          exact hE _ _ _ _ dX4_costOf_162 (k3 c1 c115 c120 c150b)
        · skip
          have c150b := zif_y c150
          refine z_iconst 1 hG dX4_costOf_153 ?_
          refine z_goto (tgt := 161) hG dX4_costOf_154 (by decide) ?_
          refine z_iadd hG dX4_costOf_161 ?_
          exact hE _ _ _ _ dX4_costOf_162 (k4 c1 c115 c120 c150b)
      · skip
        refine z_iconst (-1) hG dX4_costOf_123 ?_
        refine z_goto (tgt := 162) hG dX4_costOf_124 (by decide) ?_
        exact hE _ _ _ _ dX4_costOf_162 (k5 c1 c115 c120)
  · skip
    refine z_iload 4 hG dX4_costOf_4 rfl ?_
    refine z_if_eq (tgt := 14) hG dX4_costOf_6 (by decide) (by omega) (fun c6 => ?_) (fun c6 => ?_)
    · skip
      refine z_iconst (-1) hG dX4_costOf_14 ?_
      exact hE _ _ _ _ dX4_costOf_15 (k6 c1 c6)
    · skip
      refine z_iload 5 hG dX4_costOf_9 rfl ?_
      refine z_if_ne (tgt := 16) hG dX4_costOf_11 (by decide) (by omega) (fun c11 => ?_) (fun c11 => ?_)
      · skip
        refine z_iload_n 2 hG dX4_costOf_16 rfl rfl ?_
        refine z_iload 4 hG dX4_costOf_17 rfl ?_
        refine z_iconst 1 hG dX4_costOf_19 ?_
        refine z_isub hG dX4_costOf_20 ?_
        refine z_callS [.int (zI f), .int (zI (slot - 1))] hG hR (c_X4_at hr) hd_X4_at kw830 kw831 (by decide) (by decide) (by decide) (by decide) rfl rfl (Nat.le_of_ble_eq_true rfl) dX4_costOf_21 (fun r I' hp => ?_)
        rw [hp.1, hp.2]
        show zW G F 0 0 I [(0, .ref (F.1 110)), (1, .int (zI step)), (2, .int (zI f)), (3, .int (zI line)), (4, .int (zI slot)), (5, .int (zI token))] [.int (zI (40 * f + (slot - 1)))] 24
        refine z_istore (lv' := [(6, .int (zI (40 * f + (slot - 1)))), (0, .ref (F.1 110)), (1, .int (zI step)), (2, .int (zI f)), (3, .int (zI line)), (4, .int (zI slot)), (5, .int (zI token))]) hG dX4_costOf_24 (by decide) rfl ?_
        refine z_bipush 30 hG dX4_costOf_26 (by decide) ?_
        refine z_iload_n 4 hG dX4_costOf_28 rfl rfl ?_
        refine z_imul hG dX4_costOf_29 ?_
        refine z_iload 6 hG dX4_costOf_30 rfl ?_
        refine z_iadd hG dX4_costOf_32 ?_
        refine z_iconst 1 hG dX4_costOf_33 ?_
        refine z_isub hG dX4_costOf_34 ?_
        refine z_istore (lv' := [(7, .int (zI (((30 * line) + token) - 1))), (6, .int (zI (40 * f + (slot - 1)))), (0, .ref (F.1 110)), (1, .int (zI step)), (2, .int (zI f)), (3, .int (zI line)), (4, .int (zI slot)), (5, .int (zI token))]) hG dX4_costOf_35 (by decide) rfl ?_
        refine z_aload_n 2 hG dX4_costOf_37 rfl rfl ?_
        refine z_getR (t := 120) hG zcl4 (zltM hL (by decide)) (zl110 hL) 15 (by decide) rfl kw692 dX4_costOf_38 ?_
        refine z_iload 1 hG dX4_costOf_41 rfl ?_
        refine z_iald (v := I 120 (40 * f + (slot - 1))) hG (zltM hL (by decide)) (zl120 hL) (by decide) (by omega) rfl dX4_costOf_43 ?_
        refine z_aload_n 2 hG dX4_costOf_44 rfl rfl ?_
        refine z_getR (t := 115) hG zcl4 (zltM hL (by decide)) (zl110 hL) 7 (by decide) rfl kw684 dX4_costOf_45 ?_
        refine z_iload 0 hG dX4_costOf_48 rfl ?_
        refine z_iald (v := I 115 (((30 * line) + token) - 1)) hG (zltM hL (by decide)) (zl115 hL) (by decide) (by omega) rfl dX4_costOf_50 ?_
        refine z_icmp_eq (tgt := 56) hG dX4_costOf_51 (by decide) (hr _ _) (hr _ _) (fun c51 => ?_) (fun c51 => ?_)
        · skip
          refine z_aload_n 2 hG dX4_costOf_56 rfl rfl ?_
          refine z_getR (t := 124) hG zcl4 (zltM hL (by decide)) (zl110 hL) 21 (by decide) rfl kw698 dX4_costOf_57 ?_
          refine z_iload 6 hG dX4_costOf_60 rfl ?_
          refine z_iconst 1 hG dX4_costOf_62 ?_
          refine z_isub hG dX4_costOf_63 ?_
          refine z_iload 7 hG dX4_costOf_64 rfl ?_
          refine z_iconst 1 hG dX4_costOf_66 ?_
          refine z_isub hG dX4_costOf_67 ?_
          refine z_callS [.int (zI (slot - 1)), .int (zI (token - 1))] hG hR (c_X4_cell hr) hd_X4_cell kw833 kw834 (by decide) (by decide) (by decide) (by decide) rfl rfl (Nat.le_of_ble_eq_true rfl) dX4_costOf_68 (fun r I' hp => ?_)
          rw [hp.1, hp.2]
          show zW G F 0 0 I [(7, .int (zI (((30 * line) + token) - 1))), (6, .int (zI (40 * f + (slot - 1)))), (0, .ref (F.1 110)), (1, .int (zI step)), (2, .int (zI f)), (3, .int (zI line)), (4, .int (zI slot)), (5, .int (zI token))] [.int (zI (31 * (slot - 1) + (token - 1))), .ref (F.1 124)] 71
          refine z_iald (v := I 124 (31 * (slot - 1) + (token - 1))) hG (zltM hL (by decide)) (zl124 hL) (by decide) (by omega) rfl dX4_costOf_71 ?_
          refine z_aload_n 2 hG dX4_costOf_72 rfl rfl ?_
          refine z_getR (t := 121) hG zcl4 (zltM hL (by decide)) (zl110 hL) 16 (by decide) rfl kw693 dX4_costOf_73 ?_
          refine z_iload 1 hG dX4_costOf_76 rfl ?_
          refine z_iald (v := I 121 (40 * f + (slot - 1))) hG (zltM hL (by decide)) (zl121 hL) (by decide) (by omega) rfl dX4_costOf_78 ?_
          refine z_iconst (-1) hG dX4_costOf_79 ?_
          refine z_icmp_ne (tgt := 87) hG dX4_costOf_80 (by decide) (hr _ _) (by decide) (fun c80 => ?_) (fun c80 => ?_)
          · skip
            refine z_aload_n 2 hG dX4_costOf_87 rfl rfl ?_
            refine z_aload_n 2 hG dX4_costOf_88 rfl rfl ?_
            refine z_getR (t := 121) hG zcl4 (zltM hL (by decide)) (zl110 hL) 16 (by decide) rfl kw693 dX4_costOf_89 ?_
            refine z_iload 1 hG dX4_costOf_92 rfl ?_
            refine z_iald (v := I 121 (40 * f + (slot - 1))) hG (zltM hL (by decide)) (zl121 hL) (by decide) (by omega) rfl dX4_costOf_94 ?_
            refine z_iload 0 hG dX4_costOf_95 rfl ?_
            refine z_callV [.int (zI (I 121 (40 * f + (slot - 1)))), .int (zI (((30 * line) + token) - 1))] hG hR (c_X4_areSame hL hr (h5 () c6 c80) (h6 () c11)) hd_X4_areSame kw807 kw809 kp26 rfl (zltM hL (by decide)) (zl110 hL) (by decide) (by decide) (by decide) (by decide) rfl rfl (Nat.le_of_ble_eq_true rfl) dX4_costOf_97 (fun r I' hp => ?_)
            rw [hp.1, hp.2]
            have ha97_0 : 0 ≤ (zb (zmS (I 117) (I 116) (I 113) (I 121 (40 * f + (slot - 1))) (((30 * line) + token) - 1))) ∧ (zb (zmS (I 117) (I 116) (I 113) (I 121 (40 * f + (slot - 1))) (((30 * line) + token) - 1))) ≤ 1 := zb_le _
            show zW G F 0 0 I [(7, .int (zI (((30 * line) + token) - 1))), (6, .int (zI (40 * f + (slot - 1)))), (0, .ref (F.1 110)), (1, .int (zI step)), (2, .int (zI f)), (3, .int (zI line)), (4, .int (zI slot)), (5, .int (zI token))] [.int (zI (zb (zmS (I 117) (I 116) (I 113) (I 121 (40 * f + (slot - 1))) (((30 * line) + token) - 1)))), .int (zI (I 124 (31 * (slot - 1) + (token - 1))))] 100
            refine z_if_eq (tgt := 107) hG dX4_costOf_100 (by decide) (by omega) (fun c100 => ?_) (fun c100 => ?_)
            · skip
              refine z_aload_n 2 hG dX4_costOf_107 rfl rfl ?_
              refine z_getI (v := I 110 10) hG zcl4 (zltM hL (by decide)) (zl110 hL) 10 (by decide) rfl rfl rfl kw687 dX4_costOf_108 ?_
              refine z_iadd hG dX4_costOf_111 ?_
              exact hE _ _ _ _ dX4_costOf_112 (k7 c1 c6 c11 c51 c80 c100)
            · skip
              refine z_iconst 0 hG dX4_costOf_103 ?_
              refine z_goto (tgt := 111) hG dX4_costOf_104 (by decide) ?_
              refine z_iadd hG dX4_costOf_111 ?_
              exact hE _ _ _ _ dX4_costOf_112 (k8 c1 c6 c11 c51 c80 c100)
          · skip
            refine z_iconst 1 hG dX4_costOf_83 ?_
            refine z_goto (tgt := 111) hG dX4_costOf_84 (by decide) ?_
            refine z_iadd hG dX4_costOf_111 ?_
            exact hE _ _ _ _ dX4_costOf_112 (k9 c1 c6 c11 c51 c80)
        · skip
          refine z_iconst (-1) hG dX4_costOf_54 ?_
          exact hE _ _ _ _ dX4_costOf_55 (k10 c1 c6 c11 c51)
      · skip
        refine z_iconst (-1) hG dX4_costOf_14 ?_
        exact hE _ _ _ _ dX4_costOf_15 (k11 c1 c6 c11)

theorem c_X4_costOf {F : zFr} {I : zStore}  {step : Int} {f : Int} {line : Int} {slot : Int} {token : Int}  (hL : zLayM F) (hr : zRg I) (h0 : 0 ≤ step ∧ step ≤ 2) (h1 : 0 ≤ f ∧ f < 13) (h2 : 0 ≤ line ∧ line < 12) (h3 : 0 ≤ slot ∧ slot ≤ 40) (h4 : 0 ≤ token ∧ token ≤ 30) (hn : 0 ≤ I 110 3 ∧ I 110 3 ≤ 12) (hk : 0 ≤ I 119 f ∧ I 119 f < 4096) (h5 : ∀ _u : Unit, slot ≠ 0 → I 121 (40 * f + (slot - 1)) ≠ (-1) → zmT I (I 121 (40 * f + (slot - 1)))) (h6 : ∀ _u : Unit, token ≠ 0 → zmT I (((30 * line) + token) - 1)) (h7 : 0 ≤ I 110 10 ∧ I 110 10 ≤ 20) (h8 : 0 ≤ I 110 11 ∧ I 110 11 ≤ 20) (h9 : 0 ≤ I 110 12 ∧ I 110 12 ≤ 20) : ∀ (l : Launch) (D : va_G) (cs : Nat → ClassId), l.stackTraces = false → zMt l yX4_costOf cX4_costOf 8 (some .int) rm_X4_costOf D cs F I [.ref (F.1 110), .int (zI step), .int (zI f), .int (zI line), .int (zI slot), .int (zI token)] (fun r I' => r = some (.int (zI (zco I step f line slot token))) ∧ I' = I) :=
  fun l D cs hst => zMt.ofI hst (by decide +kernel) (Nat.le_of_ble_eq_true rfl) fun G hG hR hE => s_X4_costOf hG hR hE hL hr h0 h1 h2 h3 h4 hn hk h5 h6 h7 h8 h9
    (by intros; refine ⟨?_, rfl⟩; unfold zco; (repeat' split) <;> first | rfl | (exfalso; omega) | (exfalso; simp_all [zb]; done) | (simp_all [zb]; done))
    (by intros; refine ⟨?_, rfl⟩; unfold zco; (repeat' split) <;> first | rfl | (exfalso; omega) | (exfalso; simp_all [zb]; done) | (simp_all [zb]; done))
    (by intros; refine ⟨?_, rfl⟩; unfold zco; (repeat' split) <;> first | rfl | (exfalso; omega) | (exfalso; simp_all [zb]; done) | (simp_all [zb]; done))
    (by intros; refine ⟨?_, rfl⟩; unfold zco; (repeat' split) <;> first | rfl | (exfalso; omega) | (exfalso; simp_all [zb]; done) | (simp_all [zb]; done))
    (by intros; refine ⟨?_, rfl⟩; unfold zco; (repeat' split) <;> first | rfl | (exfalso; omega) | (exfalso; simp_all [zb]; done) | (simp_all [zb]; done))
    (by intros; refine ⟨?_, rfl⟩; unfold zco; (repeat' split) <;> first | rfl | (exfalso; omega) | (exfalso; simp_all [zb]; done) | (simp_all [zb]; done))
    (by intros; refine ⟨?_, rfl⟩; unfold zco; (repeat' split) <;> first | rfl | (exfalso; omega) | (exfalso; simp_all [zb]; done) | (simp_all [zb]; done))
    (by intros; refine ⟨?_, rfl⟩; unfold zco; (repeat' split) <;> first | rfl | (exfalso; omega) | (exfalso; simp_all [zb]; done) | (simp_all [zb]; done))
    (by intros; refine ⟨?_, rfl⟩; unfold zco; (repeat' split) <;> first | rfl | (exfalso; omega) | (exfalso; simp_all [zb]; done) | (simp_all [zb]; done))
    (by intros; refine ⟨?_, rfl⟩; unfold zco; (repeat' split) <;> first | rfl | (exfalso; omega) | (exfalso; simp_all [zb]; done) | (simp_all [zb]; done))
    (by intros; refine ⟨?_, rfl⟩; unfold zco; (repeat' split) <;> first | rfl | (exfalso; omega) | (exfalso; simp_all [zb]; done) | (simp_all [zb]; done))
