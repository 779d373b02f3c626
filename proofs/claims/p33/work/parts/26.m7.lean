abbrev rm_X2_kindOf : Room := { frames := 0, cells := 0, slots := 0, locals := 0 }
set_option maxRecDepth 100000 in
set_option maxHeartbeats 4000000 in
theorem s_X2_kindOf {G : zCx} {F : zFr} {I : zStore} {post : Option Value → zStore → Prop}{c : Int} (hG : zOK G "LineLearner$Lines" cX2_kindOf 1) (hR : zRoom G rm_X2_kindOf) (hE : zRetI G F cX2_kindOf 0 0 post) (hr : zRg I) (h1 : -128 ≤ c ∧ c ≤ 127)
    (k1 : (c < 65) → (c < 97) → (c < 48) → (c ≠ 32) → post (some (.int (zI 3))) I)
    (k2 : (c < 65) → (c < 97) → (c < 48) → (c = 32) → post (some (.int (zI 2))) I)
    (k3 : (c < 65) → (c < 97) → (48 ≤ c) → (57 < c) → (c ≠ 32) → post (some (.int (zI 3))) I)
    (k4 : (c < 65) → (c < 97) → (48 ≤ c) → (57 < c) → (c = 32) → post (some (.int (zI 2))) I)
    (k5 : (c < 65) → (c < 97) → (48 ≤ c) → (c ≤ 57) → post (some (.int (zI 1))) I)
    (k6 : (c < 65) → (97 ≤ c) → (122 < c) → (c < 48) → (c ≠ 32) → post (some (.int (zI 3))) I)
    (k7 : (c < 65) → (97 ≤ c) → (122 < c) → (c < 48) → (c = 32) → post (some (.int (zI 2))) I)
    (k8 : (c < 65) → (97 ≤ c) → (122 < c) → (48 ≤ c) → (57 < c) → (c ≠ 32) → post (some (.int (zI 3))) I)
    (k9 : (c < 65) → (97 ≤ c) → (122 < c) → (48 ≤ c) → (57 < c) → (c = 32) → post (some (.int (zI 2))) I)
    (k10 : (c < 65) → (97 ≤ c) → (122 < c) → (48 ≤ c) → (c ≤ 57) → post (some (.int (zI 1))) I)
    (k11 : (c < 65) → (97 ≤ c) → (c ≤ 122) → post (some (.int (zI 0))) I)
    (k12 : (65 ≤ c) → (c ≤ 90) → post (some (.int (zI 0))) I)
    (k13 : (65 ≤ c) → (90 < c) → (c < 97) → (c < 48) → (c ≠ 32) → post (some (.int (zI 3))) I)
    (k14 : (65 ≤ c) → (90 < c) → (c < 97) → (c < 48) → (c = 32) → post (some (.int (zI 2))) I)
    (k15 : (65 ≤ c) → (90 < c) → (c < 97) → (48 ≤ c) → (57 < c) → (c ≠ 32) → post (some (.int (zI 3))) I)
    (k16 : (65 ≤ c) → (90 < c) → (c < 97) → (48 ≤ c) → (57 < c) → (c = 32) → post (some (.int (zI 2))) I)
    (k17 : (65 ≤ c) → (90 < c) → (c < 97) → (48 ≤ c) → (c ≤ 57) → post (some (.int (zI 1))) I)
    (k18 : (65 ≤ c) → (90 < c) → (97 ≤ c) → (122 < c) → (c < 48) → (c ≠ 32) → post (some (.int (zI 3))) I)
    (k19 : (65 ≤ c) → (90 < c) → (97 ≤ c) → (122 < c) → (c < 48) → (c = 32) → post (some (.int (zI 2))) I)
    (k20 : (65 ≤ c) → (90 < c) → (97 ≤ c) → (122 < c) → (48 ≤ c) → (57 < c) → (c ≠ 32) → post (some (.int (zI 3))) I)
    (k21 : (65 ≤ c) → (90 < c) → (97 ≤ c) → (122 < c) → (48 ≤ c) → (57 < c) → (c = 32) → post (some (.int (zI 2))) I)
    (k22 : (65 ≤ c) → (90 < c) → (97 ≤ c) → (122 < c) → (48 ≤ c) → (c ≤ 57) → post (some (.int (zI 1))) I)
    (k23 : (65 ≤ c) → (90 < c) → (97 ≤ c) → (c ≤ 122) → post (some (.int (zI 0))) I) :
    zW G F 0 0 I [(0, .int (zI c))] [] 0 := by
  refine z_iload_n 0 hG dX2_kindOf_0 rfl rfl ?_
  refine z_bipush 65 hG dX2_kindOf_1 (by decide) ?_
  refine z_icmp_lt (tgt := 12) hG dX2_kindOf_3 (by decide) (by omega) (by decide) (fun c3 => ?_) (fun c3 => ?_)
  · skip
    refine z_iload_n 0 hG dX2_kindOf_12 rfl rfl ?_
    refine z_bipush 97 hG dX2_kindOf_13 (by decide) ?_
    refine z_icmp_lt (tgt := 26) hG dX2_kindOf_15 (by decide) (by omega) (by decide) (fun c15 => ?_) (fun c15 => ?_)
    · skip
      refine z_iload_n 0 hG dX2_kindOf_26 rfl rfl ?_
      refine z_bipush 48 hG dX2_kindOf_27 (by decide) ?_
      refine z_icmp_lt (tgt := 40) hG dX2_kindOf_29 (by decide) (by omega) (by decide) (fun c29 => ?_) (fun c29 => ?_)
      · skip
        refine z_iload_n 0 hG dX2_kindOf_40 rfl rfl ?_
        refine z_bipush 32 hG dX2_kindOf_41 (by decide) ?_
        refine z_icmp_ne (tgt := 50) hG dX2_kindOf_43 (by decide) (by omega) (by decide) (fun c43 => ?_) (fun c43 => ?_)
        · skip
          refine z_iconst 3 hG dX2_kindOf_50 ?_
          exact hE _ _ _ _ dX2_kindOf_51 (k1 c3 c15 c29 c43)
        · skip
          refine z_iconst 2 hG dX2_kindOf_46 ?_
          refine z_goto (tgt := 51) hG dX2_kindOf_47 (by decide) ?_
          exact hE _ _ _ _ dX2_kindOf_51 (k2 c3 c15 c29 c43)
      · skip
        refine z_iload_n 0 hG dX2_kindOf_32 rfl rfl ?_
        refine z_bipush 57 hG dX2_kindOf_33 (by decide) ?_
        refine z_icmp_gt (tgt := 40) hG dX2_kindOf_35 (by decide) (by omega) (by decide) (fun c35 => ?_) (fun c35 => ?_)
        · skip
          refine z_iload_n 0 hG dX2_kindOf_40 rfl rfl ?_
          refine z_bipush 32 hG dX2_kindOf_41 (by decide) ?_
          refine z_icmp_ne (tgt := 50) hG dX2_kindOf_43 (by decide) (by omega) (by decide) (fun c43 => ?_) (fun c43 => ?_)
          · skip
            refine z_iconst 3 hG dX2_kindOf_50 ?_
            exact hE _ _ _ _ dX2_kindOf_51 (k3 c3 c15 c29 c35 c43)
          · skip
            refine z_iconst 2 hG dX2_kindOf_46 ?_
            refine z_goto (tgt := 51) hG dX2_kindOf_47 (by decide) ?_
            exact hE _ _ _ _ dX2_kindOf_51 (k4 c3 c15 c29 c35 c43)
        · skip
          refine z_iconst 1 hG dX2_kindOf_38 ?_
          exact hE _ _ _ _ dX2_kindOf_39 (k5 c3 c15 c29 c35)
    · skip
      refine z_iload_n 0 hG dX2_kindOf_18 rfl rfl ?_
      refine z_bipush 122 hG dX2_kindOf_19 (by decide) ?_
      refine z_icmp_gt (tgt := 26) hG dX2_kindOf_21 (by decide) (by omega) (by decide) (fun c21 => ?_) (fun c21 => ?_)
      · skip
        refine z_iload_n 0 hG dX2_kindOf_26 rfl rfl ?_
        refine z_bipush 48 hG dX2_kindOf_27 (by decide) ?_
        refine z_icmp_lt (tgt := 40) hG dX2_kindOf_29 (by decide) (by omega) (by decide) (fun c29 => ?_) (fun c29 => ?_)
        · skip
          refine z_iload_n 0 hG dX2_kindOf_40 rfl rfl ?_
          refine z_bipush 32 hG dX2_kindOf_41 (by decide) ?_
          refine z_icmp_ne (tgt := 50) hG dX2_kindOf_43 (by decide) (by omega) (by decide) (fun c43 => ?_) (fun c43 => ?_)
          · skip
            refine z_iconst 3 hG dX2_kindOf_50 ?_
            exact hE _ _ _ _ dX2_kindOf_51 (k6 c3 c15 c21 c29 c43)
          · skip
            refine z_iconst 2 hG dX2_kindOf_46 ?_
            refine z_goto (tgt := 51) hG dX2_kindOf_47 (by decide) ?_
            exact hE _ _ _ _ dX2_kindOf_51 (k7 c3 c15 c21 c29 c43)
        · skip
          refine z_iload_n 0 hG dX2_kindOf_32 rfl rfl ?_
          refine z_bipush 57 hG dX2_kindOf_33 (by decide) ?_
          refine z_icmp_gt (tgt := 40) hG dX2_kindOf_35 (by decide) (by omega) (by decide) (fun c35 => ?_) (fun c35 => ?_)
          · skip
            refine z_iload_n 0 hG dX2_kindOf_40 rfl rfl ?_
            refine z_bipush 32 hG dX2_kindOf_41 (by decide) ?_
            refine z_icmp_ne (tgt := 50) hG dX2_kindOf_43 (by decide) (by omega) (by decide) (fun c43 => ?_) (fun c43 => ?_)
            · skip
              refine z_iconst 3 hG dX2_kindOf_50 ?_
              exact hE _ _ _ _ dX2_kindOf_51 (k8 c3 c15 c21 c29 c35 c43)
            · skip
              refine z_iconst 2 hG dX2_kindOf_46 ?_
              refine z_goto (tgt := 51) hG dX2_kindOf_47 (by decide) ?_
              exact hE _ _ _ _ dX2_kindOf_51 (k9 c3 c15 c21 c29 c35 c43)
          · skip
            refine z_iconst 1 hG dX2_kindOf_38 ?_
            exact hE _ _ _ _ dX2_kindOf_39 (k10 c3 c15 c21 c29 c35)
      · skip
        refine z_iconst 0 hG dX2_kindOf_24 ?_
        exact hE _ _ _ _ dX2_kindOf_25 (k11 c3 c15 c21)
  · skip
    refine z_iload_n 0 hG dX2_kindOf_6 rfl rfl ?_
    refine z_bipush 90 hG dX2_kindOf_7 (by decide) ?_
    refine z_icmp_le (tgt := 24) hG dX2_kindOf_9 (by decide) (by omega) (by decide) (fun c9 => ?_) (fun c9 => ?_)
    · skip
      refine z_iconst 0 hG dX2_kindOf_24 ?_
      exact hE _ _ _ _ dX2_kindOf_25 (k12 c3 c9)
    · skip
      refine z_iload_n 0 hG dX2_kindOf_12 rfl rfl ?_
      refine z_bipush 97 hG dX2_kindOf_13 (by decide) ?_
      refine z_icmp_lt (tgt := 26) hG dX2_kindOf_15 (by decide) (by omega) (by decide) (fun c15 => ?_) (fun c15 => ?_)
      · skip
        refine z_iload_n 0 hG dX2_kindOf_26 rfl rfl ?_
        refine z_bipush 48 hG dX2_kindOf_27 (by decide) ?_
        refine z_icmp_lt (tgt := 40) hG dX2_kindOf_29 (by decide) (by omega) (by decide) (fun c29 => ?_) (fun c29 => ?_)
        · skip
          refine z_iload_n 0 hG dX2_kindOf_40 rfl rfl ?_
          refine z_bipush 32 hG dX2_kindOf_41 (by decide) ?_
          refine z_icmp_ne (tgt := 50) hG dX2_kindOf_43 (by decide) (by omega) (by decide) (fun c43 => ?_) (fun c43 => ?_)
          · skip
            refine z_iconst 3 hG dX2_kindOf_50 ?_
            exact hE _ _ _ _ dX2_kindOf_51 (k13 c3 c9 c15 c29 c43)
          · skip
            refine z_iconst 2 hG dX2_kindOf_46 ?_
            refine z_goto (tgt := 51) hG dX2_kindOf_47 (by decide) ?_
            exact hE _ _ _ _ dX2_kindOf_51 (k14 c3 c9 c15 c29 c43)
        · skip
          refine z_iload_n 0 hG dX2_kindOf_32 rfl rfl ?_
          refine z_bipush 57 hG dX2_kindOf_33 (by decide) ?_
          refine z_icmp_gt (tgt := 40) hG dX2_kindOf_35 (by decide) (by omega) (by decide) (fun c35 => ?_) (fun c35 => ?_)
          · skip
            refine z_iload_n 0 hG dX2_kindOf_40 rfl rfl ?_
            refine z_bipush 32 hG dX2_kindOf_41 (by decide) ?_
            refine z_icmp_ne (tgt := 50) hG dX2_kindOf_43 (by decide) (by omega) (by decide) (fun c43 => ?_) (fun c43 => ?_)
            · skip
              refine z_iconst 3 hG dX2_kindOf_50 ?_
              exact hE _ _ _ _ dX2_kindOf_51 (k15 c3 c9 c15 c29 c35 c43)
            · skip
              refine z_iconst 2 hG dX2_kindOf_46 ?_
              refine z_goto (tgt := 51) hG dX2_kindOf_47 (by decide) ?_
              exact hE _ _ _ _ dX2_kindOf_51 (k16 c3 c9 c15 c29 c35 c43)
          · skip
            refine z_iconst 1 hG dX2_kindOf_38 ?_
            exact hE _ _ _ _ dX2_kindOf_39 (k17 c3 c9 c15 c29 c35)
      · skip
        refine z_iload_n 0 hG dX2_kindOf_18 rfl rfl ?_
        refine z_bipush 122 hG dX2_kindOf_19 (by decide) ?_
        refine z_icmp_gt (tgt := 26) hG dX2_kindOf_21 (by decide) (by omega) (by decide) (fun c21 => ?_) (fun c21 => ?_)
        · skip
          refine z_iload_n 0 hG dX2_kindOf_26 rfl rfl ?_
          refine z_bipush 48 hG dX2_kindOf_27 (by decide) ?_
          refine z_icmp_lt (tgt := 40) hG dX2_kindOf_29 (by decide) (by omega) (by decide) (fun c29 => ?_) (fun c29 => ?_)
          · skip
            refine z_iload_n 0 hG dX2_kindOf_40 rfl rfl ?_
            refine z_bipush 32 hG dX2_kindOf_41 (by decide) ?_
            refine z_icmp_ne (tgt := 50) hG dX2_kindOf_43 (by decide) (by omega) (by decide) (fun c43 => ?_) (fun c43 => ?_)
            · skip
              refine z_iconst 3 hG dX2_kindOf_50 ?_
              exact hE _ _ _ _ dX2_kindOf_51 (k18 c3 c9 c15 c21 c29 c43)
            · skip
              refine z_iconst 2 hG dX2_kindOf_46 ?_
              refine z_goto (tgt := 51) hG dX2_kindOf_47 (by decide) ?_
              exact hE _ _ _ _ dX2_kindOf_51 (k19 c3 c9 c15 c21 c29 c43)
          · skip
            refine z_iload_n 0 hG dX2_kindOf_32 rfl rfl ?_
            refine z_bipush 57 hG dX2_kindOf_33 (by decide) ?_
            refine z_icmp_gt (tgt := 40) hG dX2_kindOf_35 (by decide) (by omega) (by decide) (fun c35 => ?_) (fun c35 => ?_)
            · skip
              refine z_iload_n 0 hG dX2_kindOf_40 rfl rfl ?_
              refine z_bipush 32 hG dX2_kindOf_41 (by decide) ?_
              refine z_icmp_ne (tgt := 50) hG dX2_kindOf_43 (by decide) (by omega) (by decide) (fun c43 => ?_) (fun c43 => ?_)
              · skip
                refine z_iconst 3 hG dX2_kindOf_50 ?_
                exact hE _ _ _ _ dX2_kindOf_51 (k20 c3 c9 c15 c21 c29 c35 c43)
              · skip
                refine z_iconst 2 hG dX2_kindOf_46 ?_
                refine z_goto (tgt := 51) hG dX2_kindOf_47 (by decide) ?_
                exact hE _ _ _ _ dX2_kindOf_51 (k21 c3 c9 c15 c21 c29 c35 c43)
            · skip
              refine z_iconst 1 hG dX2_kindOf_38 ?_
              exact hE _ _ _ _ dX2_kindOf_39 (k22 c3 c9 c15 c21 c29 c35)
        · skip
          refine z_iconst 0 hG dX2_kindOf_24 ?_
          exact hE _ _ _ _ dX2_kindOf_25 (k23 c3 c9 c15 c21)

theorem c_X2_kindOf {F : zFr} {I : zStore}  {c : Int}  (hr : zRg I) (h1 : -128 ≤ c ∧ c ≤ 127) : ∀ (l : Launch) (D : va_G) (cs : Nat → ClassId), l.stackTraces = false → zMt l yX2_kindOf cX2_kindOf 1 (some .int) rm_X2_kindOf D cs F I [.int (zI c)] (fun r I' => r = some (.int (zI (zkd c))) ∧ I' = I) :=
  fun l D cs hst => zMt.ofI hst (by decide +kernel) (Nat.le_of_ble_eq_true rfl) fun G hG hR hE => s_X2_kindOf hG hR hE hr h1
    (by intros; refine ⟨?_, rfl⟩; simp only [zkd]; (repeat' split) <;> first | rfl | (exfalso; omega))
    (by intros; refine ⟨?_, rfl⟩; simp only [zkd]; (repeat' split) <;> first | rfl | (exfalso; omega))
    (by intros; refine ⟨?_, rfl⟩; simp only [zkd]; (repeat' split) <;> first | rfl | (exfalso; omega))
    (by intros; refine ⟨?_, rfl⟩; simp only [zkd]; (repeat' split) <;> first | rfl | (exfalso; omega))
    (by intros; refine ⟨?_, rfl⟩; simp only [zkd]; (repeat' split) <;> first | rfl | (exfalso; omega))
    (by intros; refine ⟨?_, rfl⟩; simp only [zkd]; (repeat' split) <;> first | rfl | (exfalso; omega))
    (by intros; refine ⟨?_, rfl⟩; simp only [zkd]; (repeat' split) <;> first | rfl | (exfalso; omega))
    (by intros; refine ⟨?_, rfl⟩; simp only [zkd]; (repeat' split) <;> first | rfl | (exfalso; omega))
    (by intros; refine ⟨?_, rfl⟩; simp only [zkd]; (repeat' split) <;> first | rfl | (exfalso; omega))
    (by intros; refine ⟨?_, rfl⟩; simp only [zkd]; (repeat' split) <;> first | rfl | (exfalso; omega))
    (by intros; refine ⟨?_, rfl⟩; simp only [zkd]; (repeat' split) <;> first | rfl | (exfalso; omega))
    (by intros; refine ⟨?_, rfl⟩; simp only [zkd]; (repeat' split) <;> first | rfl | (exfalso; omega))
    (by intros; refine ⟨?_, rfl⟩; simp only [zkd]; (repeat' split) <;> first | rfl | (exfalso; omega))
    (by intros; refine ⟨?_, rfl⟩; simp only [zkd]; (repeat' split) <;> first | rfl | (exfalso; omega))
    (by intros; refine ⟨?_, rfl⟩; simp only [zkd]; (repeat' split) <;> first | rfl | (exfalso; omega))
    (by intros; refine ⟨?_, rfl⟩; simp only [zkd]; (repeat' split) <;> first | rfl | (exfalso; omega))
    (by intros; refine ⟨?_, rfl⟩; simp only [zkd]; (repeat' split) <;> first | rfl | (exfalso; omega))
    (by intros; refine ⟨?_, rfl⟩; simp only [zkd]; (repeat' split) <;> first | rfl | (exfalso; omega))
    (by intros; refine ⟨?_, rfl⟩; simp only [zkd]; (repeat' split) <;> first | rfl | (exfalso; omega))
    (by intros; refine ⟨?_, rfl⟩; simp only [zkd]; (repeat' split) <;> first | rfl | (exfalso; omega))
    (by intros; refine ⟨?_, rfl⟩; simp only [zkd]; (repeat' split) <;> first | rfl | (exfalso; omega))
    (by intros; refine ⟨?_, rfl⟩; simp only [zkd]; (repeat' split) <;> first | rfl | (exfalso; omega))
    (by intros; refine ⟨?_, rfl⟩; simp only [zkd]; (repeat' split) <;> first | rfl | (exfalso; omega))
abbrev rm_X2_numberOf : Room := { frames := 1, cells := 0, slots := 0, locals := 21 }
abbrev rm_X2_isSameText : Room := { frames := 0, cells := 0, slots := 0, locals := 0 }
set_option maxRecDepth 100000 in
set_option maxHeartbeats 4000000 in
theorem s_X2_isSameText_0 {G : zCx} {F : zFr} {I : zStore} {post : Option Value → zStore → Prop}{x : Int} {y : Int} (hG : zOK G "LineLearner$Lines" cX2_isSameText 4) (hR : zRoom G rm_X2_isSameText) (hE : zRetZ G F cX2_isSameText 0 0 post) (hL : zLay F) (hr : zRg I) (h1 : 0 ≤ x ∧ x < 360) (h2 : 0 ≤ y ∧ y < 360)
    (k1 : ((I 8 x) = (I 8 y)) → zW G F 0 0 I [(0, .ref (F.1 2)), (1, .int (zI x)), (2, .int (zI y)), (3, .int (zI 0))] [] 19)
    (k2 : ((I 8 x) ≠ (I 8 y)) → post (some (.int (zI 0))) I) :
    zW G F 0 0 I [(0, .ref (F.1 2)), (1, .int (zI x)), (2, .int (zI y))] [] 0 := by
  refine z_aload_n 0 hG dX2_isSameText_0 rfl rfl ?_
  refine z_getR (t := 8) hG zcl2 (zlt hL (by decide)) (zl2 hL) 6 (by decide) rfl kw43 dX2_isSameText_1 ?_
  refine z_iload_n 1 hG dX2_isSameText_4 rfl rfl ?_
  refine z_iald (v := I 8 x) hG (zlt hL (by decide)) (zl8 hL) (by decide) (by omega) rfl dX2_isSameText_5 ?_
  refine z_aload_n 0 hG dX2_isSameText_6 rfl rfl ?_
  refine z_getR (t := 8) hG zcl2 (zlt hL (by decide)) (zl2 hL) 6 (by decide) rfl kw43 dX2_isSameText_7 ?_
  refine z_iload_n 2 hG dX2_isSameText_10 rfl rfl ?_
  refine z_iald (v := I 8 y) hG (zlt hL (by decide)) (zl8 hL) (by decide) (by omega) rfl dX2_isSameText_11 ?_
  refine z_icmp_eq (tgt := 17) hG dX2_isSameText_12 (by decide) (hr _ _) (hr _ _) (fun c12 => ?_) (fun c12 => ?_)
  · skip
    refine z_iconst 0 hG dX2_isSameText_17 ?_
    refine z_istore_n (lv' := [(3, .int (zI 0)), (0, .ref (F.1 2)), (1, .int (zI x)), (2, .int (zI y))]) hG dX2_isSameText_18 rfl (by decide) rfl ?_
    refine z_perm (lv' := [(0, .ref (F.1 2)), (1, .int (zI x)), (2, .int (zI y)), (3, .int (zI 0))]) [1, 2, 3, 0] rfl ?_
    exact k1 c12
  · skip
    refine z_iconst 0 hG dX2_isSameText_15 ?_
    exact hE _ _ _ _ dX2_isSameText_16 (by first | decide | omega) (k2 c12)

set_option maxRecDepth 100000 in
set_option maxHeartbeats 4000000 in
theorem s_X2_isSameText_19 {G : zCx} {F : zFr} {I : zStore} {post : Option Value → zStore → Prop}{x y k : Int} (hG : zOK G "LineLearner$Lines" cX2_isSameText 4) (hR : zRoom G rm_X2_isSameText) (hE : zRetZ G F cX2_isSameText 0 0 post) (hL : zLay F) (hr : zRg I) (h1 : 0 ≤ x ∧ x < 360) (h2 : 0 ≤ y ∧ y < 360) (h3 : 0 ≤ k ∧ k ≤ 30 ∧ I 8 x ≤ 30) (g1 : ∀ _u : Unit, k < I 8 x → 0 ≤ (I 7 x) + k ∧ (I 7 x) + k < 360 ∧ 0 ≤ (I 7 y) + k ∧ (I 7 y) + k < 360)
    (k1 : ((I 8 x) ≤ k) → post (some (.int (zI 1))) I)
    (k2 : (k < (I 8 x)) → ((I 5 ((I 7 x) + k)) = (I 5 ((I 7 y) + k))) → zW G F 0 0 I [(0, .ref (F.1 2)), (1, .int (zI x)), (2, .int (zI y)), (3, .int (zI (k + 1)))] [] 19)
    (k3 : (k < (I 8 x)) → ((I 5 ((I 7 x) + k)) ≠ (I 5 ((I 7 y) + k))) → post (some (.int (zI 0))) I) :
    zW G F 0 0 I [(0, .ref (F.1 2)), (1, .int (zI x)), (2, .int (zI y)), (3, .int (zI k))] [] 19 := by
  refine z_iload_n 3 hG dX2_isSameText_19 rfl rfl ?_
  refine z_aload_n 0 hG dX2_isSameText_20 rfl rfl ?_
  refine z_getR (t := 8) hG zcl2 (zlt hL (by decide)) (zl2 hL) 6 (by decide) rfl kw43 dX2_isSameText_21 ?_
  refine z_iload_n 1 hG dX2_isSameText_24 rfl rfl ?_
  refine z_iald (v := I 8 x) hG (zlt hL (by decide)) (zl8 hL) (by decide) (by omega) rfl dX2_isSameText_25 ?_
  refine z_icmp_ge (tgt := 66) hG dX2_isSameText_26 (by decide) (by omega) (hr _ _) (fun c26 => ?_) (fun c26 => ?_)
  · skip
    refine z_iconst 1 hG dX2_isSameText_66 ?_
    exact hE _ _ _ _ dX2_isSameText_67 (by first | decide | omega) (k1 c26)
  · skip
    have q1 := g1 () c26
    refine z_aload_n 0 hG dX2_isSameText_29 rfl rfl ?_
    refine z_getR (t := 5) hG zcl2 (zlt hL (by decide)) (zl2 hL) 3 (by decide) rfl kw35 dX2_isSameText_30 ?_
    refine z_aload_n 0 hG dX2_isSameText_33 rfl rfl ?_
    refine z_getR (t := 7) hG zcl2 (zlt hL (by decide)) (zl2 hL) 5 (by decide) rfl kw41 dX2_isSameText_34 ?_
    refine z_iload_n 1 hG dX2_isSameText_37 rfl rfl ?_
    refine z_iald (v := I 7 x) hG (zlt hL (by decide)) (zl7 hL) (by decide) (by omega) rfl dX2_isSameText_38 ?_
    refine z_iload_n 3 hG dX2_isSameText_39 rfl rfl ?_
    refine z_iadd hG dX2_isSameText_40 ?_
    refine z_bald (v := I 5 ((I 7 x) + k)) hG (zlt hL (by decide)) (zl5 hL) (by decide) (by omega) rfl dX2_isSameText_41 ?_
    refine z_aload_n 0 hG dX2_isSameText_42 rfl rfl ?_
    refine z_getR (t := 5) hG zcl2 (zlt hL (by decide)) (zl2 hL) 3 (by decide) rfl kw35 dX2_isSameText_43 ?_
    refine z_aload_n 0 hG dX2_isSameText_46 rfl rfl ?_
    refine z_getR (t := 7) hG zcl2 (zlt hL (by decide)) (zl2 hL) 5 (by decide) rfl kw41 dX2_isSameText_47 ?_
    refine z_iload_n 2 hG dX2_isSameText_50 rfl rfl ?_
    refine z_iald (v := I 7 y) hG (zlt hL (by decide)) (zl7 hL) (by decide) (by omega) rfl dX2_isSameText_51 ?_
    refine z_iload_n 3 hG dX2_isSameText_52 rfl rfl ?_
    refine z_iadd hG dX2_isSameText_53 ?_
    refine z_bald (v := I 5 ((I 7 y) + k)) hG (zlt hL (by decide)) (zl5 hL) (by decide) (by omega) rfl dX2_isSameText_54 ?_
    refine z_icmp_eq (tgt := 60) hG dX2_isSameText_55 (by decide) (hr _ _) (hr _ _) (fun c55 => ?_) (fun c55 => ?_)
    · skip
      refine z_iinc (lv' := [(3, .int (zI (k + 1))), (0, .ref (F.1 2)), (1, .int (zI x)), (2, .int (zI y))]) 3 hG dX2_isSameText_60 rfl (by decide) rfl ?_
      refine z_goto (tgt := 19) hG dX2_isSameText_63 (by decide) ?_
      refine z_perm (lv' := [(0, .ref (F.1 2)), (1, .int (zI x)), (2, .int (zI y)), (3, .int (zI (k + 1)))]) [1, 2, 3, 0] rfl ?_
      exact k2 c26 c55
    · skip
      refine z_iconst 0 hG dX2_isSameText_58 ?_
      exact hE _ _ _ _ dX2_isSameText_59 (by first | decide | omega) (k3 c26 c55)

abbrev rm_X2_firstAlike : Room := { frames := 1, cells := 0, slots := 0, locals := 23 }
set_option maxRecDepth 100000 in
set_option maxHeartbeats 4000000 in
theorem s_X2_firstAlike_0 {G : zCx} {F : zFr} {I : zStore} {post : Option Value → zStore → Prop}{last : Int} {p : Int} (hG : zOK G "LineLearner$Lines" cX2_firstAlike 5) (hR : zRoom G rm_X2_firstAlike) (hE : zRetI G F cX2_firstAlike 0 0 post) (hL : zLay F) (hr : zRg I)
    (k1 : zW G F 0 0 I [(0, .ref (F.1 2)), (1, .int (zI last)), (2, .int (zI p)), (3, .int (zI 0))] [] 2) :
    zW G F 0 0 I [(0, .ref (F.1 2)), (1, .int (zI last)), (2, .int (zI p))] [] 0 := by
  refine z_iconst 0 hG dX2_firstAlike_0 ?_
  refine z_istore_n (lv' := [(3, .int (zI 0)), (0, .ref (F.1 2)), (1, .int (zI last)), (2, .int (zI p))]) hG dX2_firstAlike_1 rfl (by decide) rfl ?_
  refine z_perm (lv' := [(0, .ref (F.1 2)), (1, .int (zI last)), (2, .int (zI p)), (3, .int (zI 0))]) [1, 2, 3, 0] rfl ?_
  exact k1

set_option maxRecDepth 100000 in
set_option maxHeartbeats 4000000 in
theorem s_X2_firstAlike_2 {G : zCx} {F : zFr} {I : zStore} {post : Option Value → zStore → Prop}{last p line : Int} (hG : zOK G "LineLearner$Lines" cX2_firstAlike 5) (hR : zRoom G rm_X2_firstAlike) (hE : zRetI G F cX2_firstAlike 0 0 post) (hL : zLay F) (hr : zRg I) (h1 : 0 ≤ line ∧ line ≤ 12 ∧ 0 ≤ last ∧ last < 12)
    (k1 : (last < line) → post (some (.int (zI p))) I)
    (k2 : (line ≤ last) → zW G F 0 0 I [(0, .ref (F.1 2)), (1, .int (zI last)), (2, .int (zI p)), (3, .int (zI line)), (4, .int (zI 0))] [] 10) :
    zW G F 0 0 I [(0, .ref (F.1 2)), (1, .int (zI last)), (2, .int (zI p)), (3, .int (zI line))] [] 2 := by
  refine z_iload_n 3 hG dX2_firstAlike_2 rfl rfl ?_
  refine z_iload_n 1 hG dX2_firstAlike_3 rfl rfl ?_
  refine z_icmp_gt (tgt := 54) hG dX2_firstAlike_4 (by decide) (by omega) (by omega) (fun c4 => ?_) (fun c4 => ?_)
  · skip
    refine z_iload_n 2 hG dX2_firstAlike_54 rfl rfl ?_
    exact hE _ _ _ _ dX2_firstAlike_55 (k1 c4)
  · skip
    refine z_iconst 0 hG dX2_firstAlike_7 ?_
    refine z_istore (lv' := [(4, .int (zI 0)), (0, .ref (F.1 2)), (1, .int (zI last)), (2, .int (zI p)), (3, .int (zI line))]) hG dX2_firstAlike_8 (by decide) rfl ?_
    refine z_perm (lv' := [(0, .ref (F.1 2)), (1, .int (zI last)), (2, .int (zI p)), (3, .int (zI line)), (4, .int (zI 0))]) [1, 2, 3, 4, 0] rfl ?_
    exact k2 c4

set_option maxRecDepth 100000 in
set_option maxHeartbeats 4000000 in
theorem s_X2_firstAlike_10 {G : zCx} {F : zFr} {I : zStore} {post : Option Value → zStore → Prop}{last p line t : Int} {v29 : Int} (hG : zOK G "LineLearner$Lines" cX2_firstAlike 5) (hR : zRoom G rm_X2_firstAlike) (hE : zRetI G F cX2_firstAlike 0 0 post) (hL : zLay F) (hr : zRg I) (h1 : 0 ≤ line ∧ line < 12) (h2 : 0 ≤ t ∧ t ≤ 30) (h3 : 0 ≤ p ∧ p < 360)
    (k1 : ((I 4 line) ≤ t) → zW G F 0 0 I [(0, .ref (F.1 2)), (1, .int (zI last)), (2, .int (zI p)), (3, .int (zI (line + 1)))] [] 2)
    (kc29 : (t < (I 4 line)) → ∀ (l : Launch) (D : va_G) (cs : Nat → ClassId), l.stackTraces = false → zMt l yX2_isSameText cX2_isSameText 4 (some .boolean) rm_X2_isSameText D cs F I [.ref (F.1 2), .int (zI ((line * 30) + t)), .int (zI p)] (fun r I' => r = some (.int (zI v29)) ∧ I' = I))
    (hv29 : v29 = 0 ∨ v29 = 1)
    (k4 : (t < (I 4 line)) → (v29 = 0) → zW G F 0 0 I [(0, .ref (F.1 2)), (1, .int (zI last)), (2, .int (zI p)), (3, .int (zI line)), (4, .int (zI (t + 1)))] [] 10)
    (k5 : (t < (I 4 line)) → (v29 ≠ 0) → post (some (.int (zI ((line * 30) + t)))) I) :
    zW G F 0 0 I [(0, .ref (F.1 2)), (1, .int (zI last)), (2, .int (zI p)), (3, .int (zI line)), (4, .int (zI t))] [] 10 := by
  refine z_iload 4 hG dX2_firstAlike_10 rfl ?_
  refine z_aload_n 0 hG dX2_firstAlike_12 rfl rfl ?_
  refine z_getR (t := 4) hG zcl2 (zlt hL (by decide)) (zl2 hL) 2 (by decide) rfl kw32 dX2_firstAlike_13 ?_
  refine z_iload_n 3 hG dX2_firstAlike_16 rfl rfl ?_
  refine z_iald (v := I 4 line) hG (zlt hL (by decide)) (zl4 hL) (by decide) (by omega) rfl dX2_firstAlike_17 ?_
  refine z_icmp_ge (tgt := 48) hG dX2_firstAlike_18 (by decide) (by omega) (hr _ _) (fun c18 => ?_) (fun c18 => ?_)
  · skip
    refine z_iinc (lv' := [(3, .int (zI (line + 1))), (0, .ref (F.1 2)), (1, .int (zI last)), (2, .int (zI p)), (4, .int (zI t))]) 3 hG dX2_firstAlike_48 rfl (by decide) rfl ?_
    refine z_goto (tgt := 2) hG dX2_firstAlike_51 (by decide) ?_
    refine z_perm (lv' := [(0, .ref (F.1 2)), (1, .int (zI last)), (2, .int (zI p)), (3, .int (zI (line + 1)))]) [1, 2, 3, 0] rfl ?_
    exact k1 c18
  · skip
    refine z_aload_n 0 hG dX2_firstAlike_21 rfl rfl ?_
    refine z_iload_n 3 hG dX2_firstAlike_22 rfl rfl ?_
    refine z_iload 4 hG dX2_firstAlike_23 rfl ?_
    refine z_callSN [.int (zI line), .int (zI t)] hG hR (c_X3_placeOf hr) hd_X3_placeOf kw401 kw229 (by decide) (by decide) (by decide) (by decide) rfl rfl (Nat.le_of_ble_eq_true rfl) dX2_firstAlike_25 (fun r I' hp => ?_)
    rw [hp.1, hp.2]
    show zW G F 0 0 I [(0, .ref (F.1 2)), (1, .int (zI last)), (2, .int (zI p)), (3, .int (zI line)), (4, .int (zI t))] [.int (zI ((line * 30) + t)), .ref (F.1 2)] 28
    refine z_iload_n 2 hG dX2_firstAlike_28 rfl rfl ?_
    refine z_callV [.int (zI ((line * 30) + t)), .int (zI p)] hG hR (kc29 c18) hd_X2_isSameText kw410 kw412 kp11 rfl (zlt hL (by decide)) (zl2 hL) (by decide) (by decide) (by decide) (by decide) rfl rfl (Nat.le_of_ble_eq_true rfl) dX2_firstAlike_29 (fun r I' hp => ?_)
    rw [hp.1, hp.2]
    show zW G F 0 0 I [(0, .ref (F.1 2)), (1, .int (zI last)), (2, .int (zI p)), (3, .int (zI line)), (4, .int (zI t))] [.int (zI v29)] 32
    refine z_if_eq (tgt := 42) hG dX2_firstAlike_32 (by decide) (by omega) (fun c32 => ?_) (fun c32 => ?_)
    · skip
      refine z_iinc (lv' := [(4, .int (zI (t + 1))), (0, .ref (F.1 2)), (1, .int (zI last)), (2, .int (zI p)), (3, .int (zI line))]) 4 hG dX2_firstAlike_42 rfl (by decide) rfl ?_
      refine z_goto (tgt := 10) hG dX2_firstAlike_45 (by decide) ?_
      refine z_perm (lv' := [(0, .ref (F.1 2)), (1, .int (zI last)), (2, .int (zI p)), (3, .int (zI line)), (4, .int (zI (t + 1)))]) [1, 2, 3, 4, 0] rfl ?_
      exact k4 c18 c32
    · skip
      refine z_iload_n 3 hG dX2_firstAlike_35 rfl rfl ?_
      refine z_iload 4 hG dX2_firstAlike_36 rfl ?_
      refine z_callSN [.int (zI line), .int (zI t)] hG hR (c_X3_placeOf hr) hd_X3_placeOf kw401 kw229 (by decide) (by decide) (by decide) (by decide) rfl rfl (Nat.le_of_ble_eq_true rfl) dX2_firstAlike_38 (fun r I' hp => ?_)
      rw [hp.1, hp.2]
      show zW G F 0 0 I [(0, .ref (F.1 2)), (1, .int (zI last)), (2, .int (zI p)), (3, .int (zI line)), (4, .int (zI t))] [.int (zI ((line * 30) + t))] 41
      exact hE _ _ _ _ dX2_firstAlike_41 (k5 c18 c32)

abbrev rm_X2_numberTexts : Room := { frames := 2, cells := 0, slots := 0, locals := 47 }
set_option maxRecDepth 100000 in
set_option maxHeartbeats 4000000 in
theorem s_X2_numberTexts_0 {G : zCx} {F : zFr} {I : zStore} {post : Option Value → zStore → Prop}{line : Int} (hG : zOK G "LineLearner$Lines" cX2_numberTexts 4) (hR : zRoom G rm_X2_numberTexts) (hE : zRetV G F cX2_numberTexts 0 0 post) (hL : zLay F) (hr : zRg I)
    (k1 : zW G F 0 0 I [(0, .ref (F.1 2)), (1, .int (zI line)), (2, .int (zI 0))] [] 2) :
    zW G F 0 0 I [(0, .ref (F.1 2)), (1, .int (zI line))] [] 0 := by
  refine z_iconst 0 hG dX2_numberTexts_0 ?_
  refine z_istore_n (lv' := [(2, .int (zI 0)), (0, .ref (F.1 2)), (1, .int (zI line))]) hG dX2_numberTexts_1 rfl (by decide) rfl ?_
  refine z_perm (lv' := [(0, .ref (F.1 2)), (1, .int (zI line)), (2, .int (zI 0))]) [1, 2, 0] rfl ?_
  exact k1

set_option maxRecDepth 100000 in
set_option maxHeartbeats 4000000 in
theorem s_X2_numberTexts_2 {G : zCx} {F : zFr} {I : zStore} {post : Option Value → zStore → Prop}{line t : Int} {v26 : Int} (hG : zOK G "LineLearner$Lines" cX2_numberTexts 4) (hR : zRoom G rm_X2_numberTexts) (hE : zRetV G F cX2_numberTexts 0 0 post) (hL : zLay F) (hr : zRg I) (h1 : 0 ≤ line ∧ line < 12) (h2 : 0 ≤ t ∧ t ≤ I 4 line ∧ I 4 line ≤ 30)
    (k1 : ((I 4 line) ≤ t) → post (none) I)
    (kc26 : (t < (I 4 line)) → ∀ (l : Launch) (D : va_G) (cs : Nat → ClassId), l.stackTraces = false → zMt l yX2_firstAlike cX2_firstAlike 5 (some .int) rm_X2_firstAlike D cs F I [.ref (F.1 2), .int (zI line), .int (zI ((line * 30) + t))] (fun r I' => r = some (.int (zI v26)) ∧ I' = I))
    (hv26 : -2147483648 ≤ v26 ∧ v26 < 2147483648)
    (k4 : (t < (I 4 line)) → zW G F 0 0 (zup I 9 ((line * 30) + t) v26) [(0, .ref (F.1 2)), (1, .int (zI line)), (2, .int (zI (t + 1)))] [] 2) :
    zW G F 0 0 I [(0, .ref (F.1 2)), (1, .int (zI line)), (2, .int (zI t))] [] 2 := by
  refine z_iload_n 2 hG dX2_numberTexts_2 rfl rfl ?_
  refine z_aload_n 0 hG dX2_numberTexts_3 rfl rfl ?_
  refine z_getR (t := 4) hG zcl2 (zlt hL (by decide)) (zl2 hL) 2 (by decide) rfl kw32 dX2_numberTexts_4 ?_
  refine z_iload_n 1 hG dX2_numberTexts_7 rfl rfl ?_
  refine z_iald (v := I 4 line) hG (zlt hL (by decide)) (zl4 hL) (by decide) (by omega) rfl dX2_numberTexts_8 ?_
  refine z_icmp_ge (tgt := 36) hG dX2_numberTexts_9 (by decide) (by omega) (hr _ _) (fun c9 => ?_) (fun c9 => ?_)
  · skip
    exact hE _ _ _ dX2_numberTexts_36 (k1 c9)
  · skip
    refine z_iload_n 1 hG dX2_numberTexts_12 rfl rfl ?_
    refine z_iload_n 2 hG dX2_numberTexts_13 rfl rfl ?_
    refine z_callSN [.int (zI line), .int (zI t)] hG hR (c_X3_placeOf hr) hd_X3_placeOf kw401 kw229 (by decide) (by decide) (by decide) (by decide) rfl rfl (Nat.le_of_ble_eq_true rfl) dX2_numberTexts_14 (fun r I' hp => ?_)
    rw [hp.1, hp.2]
    show zW G F 0 0 I [(0, .ref (F.1 2)), (1, .int (zI line)), (2, .int (zI t))] [.int (zI ((line * 30) + t))] 17
    refine z_istore_n (lv' := [(3, .int (zI ((line * 30) + t))), (0, .ref (F.1 2)), (1, .int (zI line)), (2, .int (zI t))]) hG dX2_numberTexts_17 rfl (by decide) rfl ?_
    refine z_aload_n 1 hG dX2_numberTexts_18 rfl rfl ?_
    refine z_getR (t := 9) hG zcl2 (zlt hL (by decide)) (zl2 hL) 7 (by decide) rfl kw47 dX2_numberTexts_19 ?_
    refine z_iload_n 0 hG dX2_numberTexts_22 rfl rfl ?_
    refine z_aload_n 1 hG dX2_numberTexts_23 rfl rfl ?_
    refine z_iload_n 2 hG dX2_numberTexts_24 rfl rfl ?_
    refine z_iload_n 0 hG dX2_numberTexts_25 rfl rfl ?_
    refine z_callV [.int (zI line), .int (zI ((line * 30) + t))] hG hR (kc26 c9) hd_X2_firstAlike kw406 kw408 kp10 rfl (zlt hL (by decide)) (zl2 hL) (by decide) (by decide) (by decide) (by decide) rfl rfl (Nat.le_of_ble_eq_true rfl) dX2_numberTexts_26 (fun r I' hp => ?_)
    rw [hp.1, hp.2]
    show zW G F 0 0 I [(3, .int (zI ((line * 30) + t))), (0, .ref (F.1 2)), (1, .int (zI line)), (2, .int (zI t))] [.int (zI v26), .int (zI ((line * 30) + t)), .ref (F.1 9)] 29
    refine z_iast hG (zlt hL (by decide)) (zl9 hL) (by decide) (by omega) dX2_numberTexts_29 ?_
    refine z_iinc (lv' := [(2, .int (zI (t + 1))), (3, .int (zI ((line * 30) + t))), (0, .ref (F.1 2)), (1, .int (zI line))]) 3 hG dX2_numberTexts_30 rfl (by decide) rfl ?_
    refine z_goto (tgt := 2) hG dX2_numberTexts_33 (by decide) ?_
    refine z_perm (lv' := [(0, .ref (F.1 2)), (1, .int (zI line)), (2, .int (zI (t + 1)))]) [2, 3, 0] rfl ?_
    exact k4 c9

abbrev rm_X2_cut : Room := { frames := 1, cells := 0, slots := 0, locals := 21 }
set_option maxRecDepth 100000 in
set_option maxHeartbeats 4000000 in
theorem s_X2_cut_0 {G : zCx} {F : zFr} {I : zStore} {post : Option Value → zStore → Prop}{line : Int} (hG : zOK G "LineLearner$Lines" cX2_cut 8) (hR : zRoom G rm_X2_cut) (hE : zRetV G F cX2_cut 0 0 post) (hL : zLay F) (hr : zRg I)
    (k1 : zW G F 0 0 I [(0, .ref (F.1 2)), (1, .int (zI line)), (2, .int (zI (line * 30))), (3, .int (zI 0)), (4, .int (zI (line * 30))), (5, .int (zI (-1))), (6, .int (zI 0))] [] 16) :
    zW G F 0 0 I [(0, .ref (F.1 2)), (1, .int (zI line))] [] 0 := by
  refine z_iload_n 1 hG dX2_cut_0 rfl rfl ?_
  refine z_callSN [.int (zI line)] hG hR (c_X3_firstByteOf hr) hd_X3_firstByteOf kw393 kw277 (by decide) (by decide) (by decide) (by decide) rfl rfl (Nat.le_of_ble_eq_true rfl) dX2_cut_1 (fun r I' hp => ?_)
  rw [hp.1, hp.2]
  show zW G F 0 0 I [(0, .ref (F.1 2)), (1, .int (zI line))] [.int (zI (line * 30))] 4
  refine z_istore_n (lv' := [(2, .int (zI (line * 30))), (0, .ref (F.1 2)), (1, .int (zI line))]) hG dX2_cut_4 rfl (by decide) rfl ?_
  refine z_iconst 0 hG dX2_cut_5 ?_
  refine z_istore_n (lv' := [(3, .int (zI 0)), (2, .int (zI (line * 30))), (0, .ref (F.1 2)), (1, .int (zI line))]) hG dX2_cut_6 rfl (by decide) rfl ?_
  refine z_iload_n 1 hG dX2_cut_7 rfl rfl ?_
  refine z_istore (lv' := [(4, .int (zI (line * 30))), (3, .int (zI 0)), (2, .int (zI (line * 30))), (0, .ref (F.1 2)), (1, .int (zI line))]) hG dX2_cut_8 (by decide) rfl ?_
  refine z_iconst (-1) hG dX2_cut_10 ?_
  refine z_istore (lv' := [(5, .int (zI (-1))), (4, .int (zI (line * 30))), (3, .int (zI 0)), (2, .int (zI (line * 30))), (0, .ref (F.1 2)), (1, .int (zI line))]) hG dX2_cut_11 (by decide) rfl ?_
  refine z_iconst 0 hG dX2_cut_13 ?_
  refine z_istore (lv' := [(6, .int (zI 0)), (5, .int (zI (-1))), (4, .int (zI (line * 30))), (3, .int (zI 0)), (2, .int (zI (line * 30))), (0, .ref (F.1 2)), (1, .int (zI line))]) hG dX2_cut_14 (by decide) rfl ?_
  refine z_perm (lv' := [(0, .ref (F.1 2)), (1, .int (zI line)), (2, .int (zI (line * 30))), (3, .int (zI 0)), (4, .int (zI (line * 30))), (5, .int (zI (-1))), (6, .int (zI 0))]) [5, 6, 4, 3, 2, 1, 0] rfl ?_
  exact k1

set_option maxRecDepth 100000 in
set_option maxHeartbeats 4000000 in
theorem s_X2_cut_16 {G : zCx} {F : zFr} {I : zStore} {post : Option Value → zStore → Prop}{line first n place lk i : Int} (hG : zOK G "LineLearner$Lines" cX2_cut 8) (hR : zRoom G rm_X2_cut) (hE : zRetV G F cX2_cut 0 0 post) (hL : zLay F) (hr : zRg I) (h1 : 0 ≤ line ∧ line < 12) (h2 : first = line * 30) (h3 : 0 ≤ n ∧ n ≤ i ∧ 0 ≤ i ∧ i ≤ I 3 line ∧ I 3 line ≤ 30) (h4 : 0 ≤ place ∧ place < 360) (h5 : -1 ≤ lk ∧ lk ≤ 3) (hc : ∀ j : Int, first ≤ j → j < first + I 3 line → 0 ≤ I 5 j ∧ I 5 j ≤ 126)
    (k1 : ((I 3 line) ≤ i) → post (none) (zup I 4 line n))
    (k2 : (i < (I 3 line)) → ((zkd (I 5 (first + i))) ≠ lk) → zW G F 0 0 (zup (zup (zup (zup I 6 ((line * 30) + n) (zkd (I 5 (first + i)))) 7 ((line * 30) + n) (first + i)) 8 ((line * 30) + n) 0) 8 ((line * 30) + n) (0 + 1)) [(0, .ref (F.1 2)), (1, .int (zI line)), (2, .int (zI first)), (3, .int (zI (n + 1))), (4, .int (zI ((line * 30) + n))), (5, .int (zI (zkd (I 5 (first + i))))), (6, .int (zI (i + 1)))] [] 16)
    (k3 : (i < (I 3 line)) → ((zkd (I 5 (first + i))) = lk) → ((zkd (I 5 (first + i))) ≠ 3) → zW G F 0 0 (zup I 8 place ((I 8 place) + 1)) [(0, .ref (F.1 2)), (1, .int (zI line)), (2, .int (zI first)), (3, .int (zI n)), (4, .int (zI place)), (5, .int (zI (zkd (I 5 (first + i))))), (6, .int (zI (i + 1)))] [] 16)
    (k4 : (i < (I 3 line)) → ((zkd (I 5 (first + i))) = lk) → ((zkd (I 5 (first + i))) = 3) → zW G F 0 0 (zup (zup (zup (zup I 6 ((line * 30) + n) (zkd (I 5 (first + i)))) 7 ((line * 30) + n) (first + i)) 8 ((line * 30) + n) 0) 8 ((line * 30) + n) (0 + 1)) [(0, .ref (F.1 2)), (1, .int (zI line)), (2, .int (zI first)), (3, .int (zI (n + 1))), (4, .int (zI ((line * 30) + n))), (5, .int (zI (zkd (I 5 (first + i))))), (6, .int (zI (i + 1)))] [] 16) :
    zW G F 0 0 I [(0, .ref (F.1 2)), (1, .int (zI line)), (2, .int (zI first)), (3, .int (zI n)), (4, .int (zI place)), (5, .int (zI lk)), (6, .int (zI i))] [] 16 := by
  refine z_iload 6 hG dX2_cut_16 rfl ?_
  refine z_aload_n 0 hG dX2_cut_18 rfl rfl ?_
  refine z_getR (t := 3) hG zcl2 (zlt hL (by decide)) (zl2 hL) 1 (by decide) rfl kw30 dX2_cut_19 ?_
  refine z_iload_n 1 hG dX2_cut_22 rfl rfl ?_
  refine z_iald (v := I 3 line) hG (zlt hL (by decide)) (zl3 hL) (by decide) (by omega) rfl dX2_cut_23 ?_
  refine z_icmp_ge (tgt := 113) hG dX2_cut_24 (by decide) (by omega) (hr _ _) (fun c24 => ?_) (fun c24 => ?_)
  · skip
    refine z_aload_n 0 hG dX2_cut_113 rfl rfl ?_
    refine z_getR (t := 4) hG zcl2 (zlt hL (by decide)) (zl2 hL) 2 (by decide) rfl kw32 dX2_cut_114 ?_
    refine z_iload_n 1 hG dX2_cut_117 rfl rfl ?_
    refine z_iload_n 3 hG dX2_cut_118 rfl rfl ?_
    refine z_iast hG (zlt hL (by decide)) (zl4 hL) (by decide) (by omega) dX2_cut_119 ?_
    exact hE _ _ _ dX2_cut_120 (k1 c24)
  · skip
    refine z_aload_n 0 hG dX2_cut_27 rfl rfl ?_
    refine z_getR (t := 5) hG zcl2 (zlt hL (by decide)) (zl2 hL) 3 (by decide) rfl kw35 dX2_cut_28 ?_
    refine z_iload_n 2 hG dX2_cut_31 rfl rfl ?_
    refine z_iload 6 hG dX2_cut_32 rfl ?_
    refine z_iadd hG dX2_cut_34 ?_
    have hi35 := hc (first + i)
    refine z_bald (v := I 5 (first + i)) hG (zlt hL (by decide)) (zl5 hL) (by decide) (by omega) rfl dX2_cut_35 ?_
    refine z_callS [.int (zI (I 5 (first + i)))] hG hR (c_X2_kindOf hr (by omega)) hd_X2_kindOf kw398 kw399 (by decide) (by decide) (by decide) (by decide) rfl rfl (Nat.le_of_ble_eq_true rfl) dX2_cut_36 (fun r I' hp => ?_)
    rw [hp.1, hp.2]
    have ha36_0 : 0 ≤ (zkd (I 5 (first + i))) ∧ (zkd (I 5 (first + i))) ≤ 3 := zkd_bd
    show zW G F 0 0 I [(0, .ref (F.1 2)), (1, .int (zI line)), (2, .int (zI first)), (3, .int (zI n)), (4, .int (zI place)), (5, .int (zI lk)), (6, .int (zI i))] [.int (zI (zkd (I 5 (first + i))))] 39
    refine z_istore (lv' := [(7, .int (zI (zkd (I 5 (first + i))))), (0, .ref (F.1 2)), (1, .int (zI line)), (2, .int (zI first)), (3, .int (zI n)), (4, .int (zI place)), (5, .int (zI lk)), (6, .int (zI i))]) hG dX2_cut_39 (by decide) rfl ?_
    refine z_iload 0 hG dX2_cut_41 rfl ?_
    refine z_iload 6 hG dX2_cut_43 rfl ?_
    refine z_icmp_ne (tgt := 54) hG dX2_cut_45 (by decide) (by omega) (by omega) (fun c45 => ?_) (fun c45 => ?_)
    · skip
      refine z_iload_n 2 hG dX2_cut_54 rfl rfl ?_
      refine z_iload_n 4 hG dX2_cut_55 rfl rfl ?_
      refine z_callSN [.int (zI line), .int (zI n)] hG hR (c_X3_placeOf hr) hd_X3_placeOf kw401 kw229 (by decide) (by decide) (by decide) (by decide) rfl rfl (Nat.le_of_ble_eq_true rfl) dX2_cut_56 (fun r I' hp => ?_)
      rw [hp.1, hp.2]
      show zW G F 0 0 I [(7, .int (zI (zkd (I 5 (first + i))))), (0, .ref (F.1 2)), (1, .int (zI line)), (2, .int (zI first)), (3, .int (zI n)), (4, .int (zI place)), (5, .int (zI lk)), (6, .int (zI i))] [.int (zI ((line * 30) + n))] 59
      refine z_istore (lv' := [(4, .int (zI ((line * 30) + n))), (7, .int (zI (zkd (I 5 (first + i))))), (0, .ref (F.1 2)), (1, .int (zI line)), (2, .int (zI first)), (3, .int (zI n)), (5, .int (zI lk)), (6, .int (zI i))]) hG dX2_cut_59 (by decide) rfl ?_
      refine z_aload_n 2 hG dX2_cut_61 rfl rfl ?_
      refine z_getR (t := 6) hG zcl2 (zlt hL (by decide)) (zl2 hL) 4 (by decide) rfl kw37 dX2_cut_62 ?_
      refine z_iload 0 hG dX2_cut_65 rfl ?_
      refine z_iload 1 hG dX2_cut_67 rfl ?_
      refine z_iast hG (zlt hL (by decide)) (zl6 hL) (by decide) (by omega) dX2_cut_69 ?_
      refine z_aload_n 2 hG dX2_cut_70 rfl rfl ?_
      refine z_getR (t := 7) hG zcl2 (zlt hL (by decide)) (zl2 hL) 5 (by decide) rfl kw41 dX2_cut_71 ?_
      refine z_iload 0 hG dX2_cut_74 rfl ?_
      refine z_iload_n 4 hG dX2_cut_76 rfl rfl ?_
      refine z_iload 7 hG dX2_cut_77 rfl ?_
      refine z_iadd hG dX2_cut_79 ?_
      refine z_iast hG (zlt hL (by decide)) (zl7 hL) (by decide) (by omega) dX2_cut_80 ?_
      refine z_aload_n 2 hG dX2_cut_81 rfl rfl ?_
      refine z_getR (t := 8) hG zcl2 (zlt hL (by decide)) (zl2 hL) 6 (by decide) rfl kw43 dX2_cut_82 ?_
      refine z_iload 0 hG dX2_cut_85 rfl ?_
      refine z_iconst 0 hG dX2_cut_87 ?_
      refine z_iast hG (zlt hL (by decide)) (zl8 hL) (by decide) (by omega) dX2_cut_88 ?_
      refine z_iinc (lv' := [(3, .int (zI (n + 1))), (4, .int (zI ((line * 30) + n))), (7, .int (zI (zkd (I 5 (first + i))))), (0, .ref (F.1 2)), (1, .int (zI line)), (2, .int (zI first)), (5, .int (zI lk)), (6, .int (zI i))]) 5 hG dX2_cut_89 rfl (by decide) rfl ?_
      refine z_aload_n 3 hG dX2_cut_92 rfl rfl ?_
      refine z_getR (t := 8) hG zcl2 (zlt hL (by decide)) (zl2 hL) 6 (by decide) rfl kw43 dX2_cut_93 ?_
      refine z_iload 1 hG dX2_cut_96 rfl ?_
      refine z_dup2 hG dX2_cut_98 rfl rfl ?_
      refine z_iald (v := 0) hG (zlt hL (by decide)) (zl8 hL) (by decide) (by omega) (zup_at _ _ _ _) dX2_cut_99 ?_
      refine z_iconst 1 hG dX2_cut_100 ?_
      refine z_iadd hG dX2_cut_101 ?_
      refine z_iast hG (zlt hL (by decide)) (zl8 hL) (by decide) (by omega) dX2_cut_102 ?_
      refine z_iload 2 hG dX2_cut_103 rfl ?_
      refine z_istore (lv' := [(5, .int (zI (zkd (I 5 (first + i))))), (3, .int (zI (n + 1))), (4, .int (zI ((line * 30) + n))), (7, .int (zI (zkd (I 5 (first + i))))), (0, .ref (F.1 2)), (1, .int (zI line)), (2, .int (zI first)), (6, .int (zI i))]) hG dX2_cut_105 (by decide) rfl ?_
      refine z_iinc (lv' := [(6, .int (zI (i + 1))), (5, .int (zI (zkd (I 5 (first + i))))), (3, .int (zI (n + 1))), (4, .int (zI ((line * 30) + n))), (7, .int (zI (zkd (I 5 (first + i))))), (0, .ref (F.1 2)), (1, .int (zI line)), (2, .int (zI first))]) 7 hG dX2_cut_107 rfl (by decide) rfl ?_
      refine z_goto (tgt := 16) hG dX2_cut_110 (by decide) ?_
      refine z_perm (lv' := [(0, .ref (F.1 2)), (1, .int (zI line)), (2, .int (zI first)), (3, .int (zI (n + 1))), (4, .int (zI ((line * 30) + n))), (5, .int (zI (zkd (I 5 (first + i))))), (6, .int (zI (i + 1)))]) [5, 6, 7, 2, 3, 1, 0] rfl ?_
      exact k2 c24 c45
    · skip
      refine z_iload 0 hG dX2_cut_48 rfl ?_
      refine z_iconst 3 hG dX2_cut_50 ?_
      refine z_icmp_ne (tgt := 92) hG dX2_cut_51 (by decide) (by omega) (by decide) (fun c51 => ?_) (fun c51 => ?_)
      · skip
        refine z_aload_n 1 hG dX2_cut_92 rfl rfl ?_
        refine z_getR (t := 8) hG zcl2 (zlt hL (by decide)) (zl2 hL) 6 (by decide) rfl kw43 dX2_cut_93 ?_
        refine z_iload 5 hG dX2_cut_96 rfl ?_
        refine z_dup2 hG dX2_cut_98 rfl rfl ?_
        refine z_iald (v := I 8 place) hG (zlt hL (by decide)) (zl8 hL) (by decide) (by omega) rfl dX2_cut_99 ?_
        refine z_iconst 1 hG dX2_cut_100 ?_
        refine z_iadd hG dX2_cut_101 ?_
        refine z_iast hG (zlt hL (by decide)) (zl8 hL) (by decide) (by omega) dX2_cut_102 ?_
        refine z_iload 0 hG dX2_cut_103 rfl ?_
        refine z_istore (lv' := [(5, .int (zI (zkd (I 5 (first + i))))), (7, .int (zI (zkd (I 5 (first + i))))), (0, .ref (F.1 2)), (1, .int (zI line)), (2, .int (zI first)), (3, .int (zI n)), (4, .int (zI place)), (6, .int (zI i))]) hG dX2_cut_105 (by decide) rfl ?_
        refine z_iinc (lv' := [(6, .int (zI (i + 1))), (5, .int (zI (zkd (I 5 (first + i))))), (7, .int (zI (zkd (I 5 (first + i))))), (0, .ref (F.1 2)), (1, .int (zI line)), (2, .int (zI first)), (3, .int (zI n)), (4, .int (zI place))]) 7 hG dX2_cut_107 rfl (by decide) rfl ?_
        refine z_goto (tgt := 16) hG dX2_cut_110 (by decide) ?_
        refine z_perm (lv' := [(0, .ref (F.1 2)), (1, .int (zI line)), (2, .int (zI first)), (3, .int (zI n)), (4, .int (zI place)), (5, .int (zI (zkd (I 5 (first + i))))), (6, .int (zI (i + 1)))]) [3, 4, 5, 6, 7, 1, 0] rfl ?_
        exact k3 c24 c45 c51
      · skip
        refine z_iload_n 2 hG dX2_cut_54 rfl rfl ?_
        refine z_iload_n 4 hG dX2_cut_55 rfl rfl ?_
        refine z_callSN [.int (zI line), .int (zI n)] hG hR (c_X3_placeOf hr) hd_X3_placeOf kw401 kw229 (by decide) (by decide) (by decide) (by decide) rfl rfl (Nat.le_of_ble_eq_true rfl) dX2_cut_56 (fun r I' hp => ?_)
        rw [hp.1, hp.2]
        show zW G F 0 0 I [(7, .int (zI (zkd (I 5 (first + i))))), (0, .ref (F.1 2)), (1, .int (zI line)), (2, .int (zI first)), (3, .int (zI n)), (4, .int (zI place)), (5, .int (zI lk)), (6, .int (zI i))] [.int (zI ((line * 30) + n))] 59
        refine z_istore (lv' := [(4, .int (zI ((line * 30) + n))), (7, .int (zI (zkd (I 5 (first + i))))), (0, .ref (F.1 2)), (1, .int (zI line)), (2, .int (zI first)), (3, .int (zI n)), (5, .int (zI lk)), (6, .int (zI i))]) hG dX2_cut_59 (by decide) rfl ?_
        refine z_aload_n 2 hG dX2_cut_61 rfl rfl ?_
        refine z_getR (t := 6) hG zcl2 (zlt hL (by decide)) (zl2 hL) 4 (by decide) rfl kw37 dX2_cut_62 ?_
        refine z_iload 0 hG dX2_cut_65 rfl ?_
        refine z_iload 1 hG dX2_cut_67 rfl ?_
        refine z_iast hG (zlt hL (by decide)) (zl6 hL) (by decide) (by omega) dX2_cut_69 ?_
        refine z_aload_n 2 hG dX2_cut_70 rfl rfl ?_
        refine z_getR (t := 7) hG zcl2 (zlt hL (by decide)) (zl2 hL) 5 (by decide) rfl kw41 dX2_cut_71 ?_
        refine z_iload 0 hG dX2_cut_74 rfl ?_
        refine z_iload_n 4 hG dX2_cut_76 rfl rfl ?_
        refine z_iload 7 hG dX2_cut_77 rfl ?_
        refine z_iadd hG dX2_cut_79 ?_
        refine z_iast hG (zlt hL (by decide)) (zl7 hL) (by decide) (by omega) dX2_cut_80 ?_
        refine z_aload_n 2 hG dX2_cut_81 rfl rfl ?_
        refine z_getR (t := 8) hG zcl2 (zlt hL (by decide)) (zl2 hL) 6 (by decide) rfl kw43 dX2_cut_82 ?_
        refine z_iload 0 hG dX2_cut_85 rfl ?_
        refine z_iconst 0 hG dX2_cut_87 ?_
        refine z_iast hG (zlt hL (by decide)) (zl8 hL) (by decide) (by omega) dX2_cut_88 ?_
        refine z_iinc (lv' := [(3, .int (zI (n + 1))), (4, .int (zI ((line * 30) + n))), (7, .int (zI (zkd (I 5 (first + i))))), (0, .ref (F.1 2)), (1, .int (zI line)), (2, .int (zI first)), (5, .int (zI lk)), (6, .int (zI i))]) 5 hG dX2_cut_89 rfl (by decide) rfl ?_
        refine z_aload_n 3 hG dX2_cut_92 rfl rfl ?_
        refine z_getR (t := 8) hG zcl2 (zlt hL (by decide)) (zl2 hL) 6 (by decide) rfl kw43 dX2_cut_93 ?_
        refine z_iload 1 hG dX2_cut_96 rfl ?_
        refine z_dup2 hG dX2_cut_98 rfl rfl ?_
        refine z_iald (v := 0) hG (zlt hL (by decide)) (zl8 hL) (by decide) (by omega) (zup_at _ _ _ _) dX2_cut_99 ?_
        refine z_iconst 1 hG dX2_cut_100 ?_
        refine z_iadd hG dX2_cut_101 ?_
        refine z_iast hG (zlt hL (by decide)) (zl8 hL) (by decide) (by omega) dX2_cut_102 ?_
        refine z_iload 2 hG dX2_cut_103 rfl ?_
        refine z_istore (lv' := [(5, .int (zI (zkd (I 5 (first + i))))), (3, .int (zI (n + 1))), (4, .int (zI ((line * 30) + n))), (7, .int (zI (zkd (I 5 (first + i))))), (0, .ref (F.1 2)), (1, .int (zI line)), (2, .int (zI first)), (6, .int (zI i))]) hG dX2_cut_105 (by decide) rfl ?_
        refine z_iinc (lv' := [(6, .int (zI (i + 1))), (5, .int (zI (zkd (I 5 (first + i))))), (3, .int (zI (n + 1))), (4, .int (zI ((line * 30) + n))), (7, .int (zI (zkd (I 5 (first + i))))), (0, .ref (F.1 2)), (1, .int (zI line)), (2, .int (zI first))]) 7 hG dX2_cut_107 rfl (by decide) rfl ?_
        refine z_goto (tgt := 16) hG dX2_cut_110 (by decide) ?_
        refine z_perm (lv' := [(0, .ref (F.1 2)), (1, .int (zI line)), (2, .int (zI first)), (3, .int (zI (n + 1))), (4, .int (zI ((line * 30) + n))), (5, .int (zI (zkd (I 5 (first + i))))), (6, .int (zI (i + 1)))]) [5, 6, 7, 2, 3, 1, 0] rfl ?_
        exact k4 c24 c45 c51

abbrev rm_X2_add : Room := { frames := 3, cells := 0, slots := 0, locals := 70 }
set_option maxRecDepth 100000 in
set_option maxHeartbeats 4000000 in
theorem s_X2_add_0 {G : zCx} {F : zFr} {I : zStore} {post : Option Value → zStore → Prop}{size : Int} (hG : zOK G "LineLearner$Lines" cX2_add 5) (hR : zRoom G rm_X2_add) (hE : zRetI G F cX2_add 0 0 post) (hL : zLay F) (hr : zRg I)
    (k1 : zW G F 0 0 I [(0, .ref (F.1 2)), (1, .ref (F.1 1)), (2, .int (zI size)), (3, .int (zI (I 2 0))), (4, .int (zI 0))] [] 8) :
    zW G F 0 0 I [(0, .ref (F.1 2)), (1, .ref (F.1 1)), (2, .int (zI size))] [] 0 := by
  refine z_aload_n 0 hG dX2_add_0 rfl rfl ?_
  refine z_getI (v := I 2 0) hG zcl2 (zlt hL (by decide)) (zl2 hL) 0 (by decide) rfl rfl rfl kw28 dX2_add_1 ?_
  refine z_istore_n (lv' := [(3, .int (zI (I 2 0))), (0, .ref (F.1 2)), (1, .ref (F.1 1)), (2, .int (zI size))]) hG dX2_add_4 rfl (by decide) rfl ?_
  refine z_iconst 0 hG dX2_add_5 ?_
  refine z_istore (lv' := [(4, .int (zI 0)), (3, .int (zI (I 2 0))), (0, .ref (F.1 2)), (1, .ref (F.1 1)), (2, .int (zI size))]) hG dX2_add_6 (by decide) rfl ?_
  refine z_perm (lv' := [(0, .ref (F.1 2)), (1, .ref (F.1 1)), (2, .int (zI size)), (3, .int (zI (I 2 0))), (4, .int (zI 0))]) [2, 3, 4, 1, 0] rfl ?_
  exact k1

set_option maxRecDepth 100000 in
set_option maxHeartbeats 4000000 in
theorem s_X2_add_8 {G : zCx} {F : zFr} {I : zStore} {post : Option Value → zStore → Prop}{size line i : Int} {J45 : zStore} {J50 : zStore} (hG : zOK G "LineLearner$Lines" cX2_add 5) (hR : zRoom G rm_X2_add) (hE : zRetI G F cX2_add 0 0 post) (hL : zLay F) (hr : zRg I) (h1 : 0 ≤ line ∧ line < 12) (h2 : 0 ≤ i ∧ i ≤ size ∧ size ≤ 30) (hc : ∀ j : Int, 0 ≤ j → j < size → 0 ≤ I 1 j ∧ I 1 j ≤ 126)
    (kc45 : (size ≤ i) → ∀ (l : Launch) (D : va_G) (cs : Nat → ClassId), l.stackTraces = false → zMt l yX2_cut cX2_cut 8 none rm_X2_cut D cs F (zup I 3 line size) [.ref (F.1 2), .int (zI line)] (fun r I' => r = none ∧ I' = J45))
    (hrJ45 : zRg J45)
    (kc50 : (size ≤ i) → ∀ (l : Launch) (D : va_G) (cs : Nat → ClassId), l.stackTraces = false → zMt l yX2_numberTexts cX2_numberTexts 4 none rm_X2_numberTexts D cs F J45 [.ref (F.1 2), .int (zI line)] (fun r I' => r = none ∧ I' = J50))
    (hrJ50 : zRg J50)
    (k5 : (size ≤ i) → post (some (.int (zI line))) (zup J50 2 0 ((J50 2 0) + 1)))
    (k6 : (i < size) → zW G F 0 0 (zup I 5 ((line * 30) + i) (I 1 i)) [(0, .ref (F.1 2)), (1, .ref (F.1 1)), (2, .int (zI size)), (3, .int (zI line)), (4, .int (zI (i + 1)))] [] 8) :
    zW G F 0 0 I [(0, .ref (F.1 2)), (1, .ref (F.1 1)), (2, .int (zI size)), (3, .int (zI line)), (4, .int (zI i))] [] 8 := by
  refine z_iload 4 hG dX2_add_8 rfl ?_
  refine z_iload_n 2 hG dX2_add_10 rfl rfl ?_
  refine z_icmp_ge (tgt := 36) hG dX2_add_11 (by decide) (by omega) (by omega) (fun c11 => ?_) (fun c11 => ?_)
  · skip
    refine z_aload_n 0 hG dX2_add_36 rfl rfl ?_
    refine z_getR (t := 3) hG zcl2 (zlt hL (by decide)) (zl2 hL) 1 (by decide) rfl kw30 dX2_add_37 ?_
    refine z_iload_n 3 hG dX2_add_40 rfl rfl ?_
    refine z_iload_n 2 hG dX2_add_41 rfl rfl ?_
    refine z_iast hG (zlt hL (by decide)) (zl3 hL) (by decide) (by omega) dX2_add_42 ?_
    refine z_aload_n 0 hG dX2_add_43 rfl rfl ?_
    refine z_iload_n 3 hG dX2_add_44 rfl rfl ?_
    refine z_callV [.int (zI line)] hG hR (kc45 c11) hd_X2_cut kw394 kw396 kp8 rfl (zlt hL (by decide)) (zl2 hL) (by decide) (by decide) (by decide) (by decide) rfl rfl (Nat.le_of_ble_eq_true rfl) dX2_add_45 (fun r I' hp => ?_)
    rw [hp.1, hp.2]
    show zW G F 0 0 J45 [(0, .ref (F.1 2)), (1, .ref (F.1 1)), (2, .int (zI size)), (3, .int (zI line)), (4, .int (zI i))] [] 48
    refine z_aload_n 0 hG dX2_add_48 rfl rfl ?_
    refine z_iload_n 3 hG dX2_add_49 rfl rfl ?_
    refine z_callV [.int (zI line)] hG hR (kc50 c11) hd_X2_numberTexts kw402 kw404 kp9 rfl (zlt hL (by decide)) (zl2 hL) (by decide) (by decide) (by decide) (by decide) rfl rfl (Nat.le_of_ble_eq_true rfl) dX2_add_50 (fun r I' hp => ?_)
    rw [hp.1, hp.2]
    show zW G F 0 0 J50 [(0, .ref (F.1 2)), (1, .ref (F.1 1)), (2, .int (zI size)), (3, .int (zI line)), (4, .int (zI i))] [] 53
    refine z_aload_n 0 hG dX2_add_53 rfl rfl ?_
    refine z_dup hG dX2_add_54 rfl ?_
    refine z_getI (v := J50 2 0) hG zcl2 (zlt hL (by decide)) (zl2 hL) 0 (by decide) rfl rfl rfl kw28 dX2_add_55 ?_
    refine z_iconst 1 hG dX2_add_58 ?_
    refine z_iadd hG dX2_add_59 ?_
    refine z_putI hG zcl2 (zlt hL (by decide)) (zl2 hL) 0 (by decide) (ki := 0) rfl rfl kw28 rfl rfl dX2_add_60 ?_
    refine z_iload_n 3 hG dX2_add_63 rfl rfl ?_
    exact hE _ _ _ _ dX2_add_64 (k5 c11)
  · skip
    refine z_aload_n 0 hG dX2_add_14 rfl rfl ?_
    refine z_getR (t := 5) hG zcl2 (zlt hL (by decide)) (zl2 hL) 3 (by decide) rfl kw35 dX2_add_15 ?_
    refine z_iload_n 3 hG dX2_add_18 rfl rfl ?_
    refine z_callSN [.int (zI line)] hG hR (c_X3_firstByteOf hr) hd_X3_firstByteOf kw393 kw277 (by decide) (by decide) (by decide) (by decide) rfl rfl (Nat.le_of_ble_eq_true rfl) dX2_add_19 (fun r I' hp => ?_)
    rw [hp.1, hp.2]
    show zW G F 0 0 I [(0, .ref (F.1 2)), (1, .ref (F.1 1)), (2, .int (zI size)), (3, .int (zI line)), (4, .int (zI i))] [.int (zI (line * 30)), .ref (F.1 5)] 22
    refine z_iload 4 hG dX2_add_22 rfl ?_
    refine z_iadd hG dX2_add_24 ?_
    refine z_aload_n 1 hG dX2_add_25 rfl rfl ?_
    refine z_iload 4 hG dX2_add_26 rfl ?_
    have hi28 := hc i
    refine z_bald (v := I 1 i) hG (zlt hL (by decide)) (zl1 hL) (by decide) (by omega) rfl dX2_add_28 ?_
    refine z_bast hG (zlt hL (by decide)) (zl5 hL) (by decide) (by omega) (by omega) dX2_add_29 ?_
    refine z_iinc (lv' := [(4, .int (zI (i + 1))), (0, .ref (F.1 2)), (1, .ref (F.1 1)), (2, .int (zI size)), (3, .int (zI line))]) 4 hG dX2_add_30 rfl (by decide) rfl ?_
    refine z_goto (tgt := 8) hG dX2_add_33 (by decide) ?_
    refine z_perm (lv' := [(0, .ref (F.1 2)), (1, .ref (F.1 1)), (2, .int (zI size)), (3, .int (zI line)), (4, .int (zI (i + 1)))]) [1, 2, 3, 4, 0] rfl ?_
    exact k6 c11

/-- a token's place, start and size lie in the rows -/
def zTk (I : zStore) (p : Int) : Prop := (0 ≤ p ∧ p < 360) ∧ 0 ≤ I 7 p ∧ 0 ≤ I 8 p ∧ I 8 p ≤ 30 ∧ I 7 p + I 8 p ≤ 360
theorem c_X2_isSameText {F : zFr} {I : zStore} {x y : Int} (hL : zLay F) (hr : zRg I) (hx : zTk I x) (hy : zTk I y) : ∀ (l : Launch) (D : va_G) (cs : Nat → ClassId), l.stackTraces = false → zMt l yX2_isSameText cX2_isSameText 4 (some .boolean) rm_X2_isSameText D cs F I [.ref (F.1 2), .int (zI x), .int (zI y)] (fun r I' => r = some (.int (zI (zb (zsm I x y)))) ∧ I' = I) := by
  intro l D cs hst
  refine zMt.ofZ hst (by decide +kernel) (Nat.le_of_ble_eq_true rfl) fun G hG hR hE => ?_
  obtain ⟨h1, h2, h3, h4, h5⟩ := hx
  obtain ⟨i1, i2, i3, i4, i5⟩ := hy
  refine s_X2_isSameText_0 hG hR hE hL hr h1 i1 (fun e => ?_) (fun e => ?_)
  · have key : ∀ (d k : Nat), (k : Int) + d = I 8 x → zseq (I 5) (I 7 x) (I 7 y) k = true → zW G F 0 0 I [(0, .ref (F.1 2)), (1, .int (zI x)), (2, .int (zI y)), (3, .int (zI k))] [] 19 := by
      intro d
      induction d with
      | zero =>
        intro k hk hs
        refine s_X2_isSameText_19 hG hR hE hL hr h1 i1 (by omega) (fun _ h => absurd h (by omega)) (fun _ => ?_) (fun h => absurd h (by omega)) (fun h => absurd h (by omega))
        refine ⟨?_, rfl⟩
        unfold zsm
        rw [show (I 8 x).toNat = k by omega, hs, show (I 8 x == I 8 y) = true from beq_iff_eq.mpr e]
        rfl
      | succ d ih =>
        intro k hk hs
        refine s_X2_isSameText_19 hG hR hE hL hr h1 i1 (by omega) (fun _ h => by omega) (fun h => absurd h (by omega)) (fun _ e2 => ?_) (fun _ e2 => ?_)
        · refine ih (k + 1) (by omega) ?_
          simp only [zseq]
          rw [hs, show (I 5 (I 7 x + k) == I 5 (I 7 y + k)) = true from beq_iff_eq.mpr e2]
          rfl
        · refine ⟨?_, rfl⟩
          unfold zsm
          rw [zseq_f e2 _ (by omega), Bool.and_false]
          rfl
    exact key (I 8 x).toNat 0 (by omega) rfl
  · refine ⟨?_, rfl⟩
    unfold zsm
    rw [show (I 8 x == I 8 y) = false from beq_false_of_ne e]
    rfl
set_option maxHeartbeats 4000000 in
theorem c_X2_firstAlike {F : zFr} {I : zStore} {last : Nat} {p v : Int} (hL : zLay F) (hr : zRg I) (hlast : last < 12) (hp : zTk I p) (ht : ∀ l : Nat, l ≤ last → 0 ≤ I 4 l ∧ I 4 l ≤ 30 ∧ ∀ t : Nat, (t : Int) < I 4 l → zTk I (l * 30 + t)) (hv : zfst I last p v) : ∀ (l : Launch) (D : va_G) (cs : Nat → ClassId), l.stackTraces = false → zMt l yX2_firstAlike cX2_firstAlike 5 (some .int) rm_X2_firstAlike D cs F I [.ref (F.1 2), .int (zI last), .int (zI p)] (fun r I' => r = some (.int (zI v)) ∧ I' = I) := by
  intro l D cs hst
  refine zMt.ofI hst (by decide +kernel) (Nat.le_of_ble_eq_true rfl) fun G hG hR hE => ?_
  obtain ⟨l0, t0, q1, q2, q3, q4, q5⟩ := hv
  refine s_X2_firstAlike_0 hG hR hE hL hr ?_
  have key : ∀ (d l : Nat), l + d = l0 → zW G F 0 0 I [(0, .ref (F.1 2)), (1, .int (zI last)), (2, .int (zI p)), (3, .int (zI l))] [] 2 := by
    have inner : ∀ (l : Nat), l ≤ l0 → (l < l0 → zW G F 0 0 I [(0, .ref (F.1 2)), (1, .int (zI last)), (2, .int (zI p)), (3, .int (zI ((l : Int) + 1)))] [] 2) → ∀ (d t : Nat), t + d = (I 4 l).toNat → (l = l0 → t ≤ t0) → zW G F 0 0 I [(0, .ref (F.1 2)), (1, .int (zI last)), (2, .int (zI p)), (3, .int (zI l)), (4, .int (zI t))] [] 10 := by
      intro l hl hk d
      have hl4 := ht l (by omega)
      induction d with
      | zero =>
        intro t htd hlt
        have hne : l ≠ l0 := fun e => by
          have := hlt e
          subst e
          omega
        exact s_X2_firstAlike_10 (v29 := 0) hG hR hE hL hr (by omega) (by omega) hp.1 (fun _ => hk (by omega)) (fun h => absurd h (by omega)) (by omega) (fun h => absurd h (by omega)) (fun h => absurd h (by omega))
      | succ d ih =>
        intro t htd hlt
        have htk := hl4.2.2 t (by omega)
        have hb := zb_bd (zsm I (l * 30 + t) p)
        refine s_X2_firstAlike_10 (v29 := zb (zsm I (l * 30 + t) p)) hG hR hE hL hr (by omega) (by omega) hp.1 (fun h => absurd h (by omega)) (fun _ => c_X2_isSameText hL hr htk hp) (by omega) (fun _ e => ?_) (fun _ e => ?_)
        · refine ih (t + 1) (by omega) (fun e2 => ?_)
          have h1 := hlt e2
          rcases Nat.lt_or_ge t t0 with h2 | h2
          · exact h2
          · have e3 : t = t0 := by omega
            subst e2; subst e3
            rw [← q3, q4] at e
            exact absurd e (by decide)
        · have e1 := zb_1 e
          have h3 : ¬ (l < l0 ∨ (l = l0 ∧ t < t0)) := fun h => by
            rw [q5 l t (by omega) h] at e1
            cases e1
          have e2 : l = l0 ∧ t = t0 := by
            have : l = l0 := by omega
            have := hlt this
            omega
          rw [e2.1, e2.2, ← q3]
          exact ⟨rfl, rfl⟩
    intro d
    induction d with
    | zero =>
      intro l hl
      have e : l = l0 := by omega
      refine s_X2_firstAlike_2 hG hR hE hL hr (by omega) (fun h => absurd h (by omega)) (fun _ => ?_)
      exact inner l (by omega) (fun h => absurd h (by omega)) (I 4 l).toNat 0 (by omega) (fun _ => by omega)
    | succ d ih =>
      intro l hl
      refine s_X2_firstAlike_2 hG hR hE hL hr (by omega) (fun h => absurd h (by omega)) (fun _ => ?_)
      exact inner l (by omega) (fun _ => ih (l + 1) (by omega)) (I 4 l).toNat 0 (by omega) (fun _ => by omega)
  exact key l0 0 (by omega)
theorem zfst_c {I J : zStore} {last : Nat} {p v : Int} (h4 : J 4 = I 4) (h5 : J 5 = I 5) (h7 : J 7 = I 7) (h8 : J 8 = I 8) (h : zfst I last p v) : zfst J last p v := by
  have e : ∀ a c, zsm J a c = zsm I a c := fun a c => by unfold zsm; rw [h5, h7, h8]
  obtain ⟨l0, t0, q1, q2, q3, q4, q5⟩ := h
  exact ⟨l0, t0, q1, by rw [h4]; exact q2, q3, by rw [e]; exact q4, fun l t ht hlt => by rw [e]; exact q5 l t (by rw [h4] at ht; exact ht) hlt⟩
theorem zTk_c {I J : zStore} {p : Int} (h7 : J 7 = I 7) (h8 : J 8 = I 8) (h : zTk I p) : zTk J p := by
  unfold zTk
  rw [h7, h8]
  exact h
set_option maxHeartbeats 4000000 in
theorem c_X2_numberTexts {F : zFr} {I : zStore} {line m : Nat} {V : Nat → Int} (hL : zLay F) (hr : zRg I) (hline : line < 12) (hm : I 4 line = m) (ht : ∀ l : Nat, l ≤ line → 0 ≤ I 4 l ∧ I 4 l ≤ 30 ∧ ∀ t : Nat, (t : Int) < I 4 l → zTk I (l * 30 + t)) (hV : ∀ t : Nat, t < m → zfst I line (line * 30 + t) (V t)) (hVr : ∀ t : Nat, t < m → 0 ≤ V t ∧ V t < 360) : ∀ (l : Launch) (D : va_G) (cs : Nat → ClassId), l.stackTraces = false → zMt l yX2_numberTexts cX2_numberTexts 4 none rm_X2_numberTexts D cs F I [.ref (F.1 2), .int (zI line)] (fun r I' => r = none ∧ I' = zfl I 9 (line * 30) m V) := by
  intro l D cs hst
  refine zMt.ofV hst (by decide +kernel) (Nat.le_of_ble_eq_true rfl) fun G hG hR hE => ?_
  have hm4 := ht line (by omega)
  refine s_X2_numberTexts_0 hG hR hE hL hr ?_
  have ho : ∀ (t c : Nat), c ≠ 9 → zfl I 9 (line * 30) t V c = I c := fun t c h => funext fun j => zfl_k h
  have key : ∀ (d t : Nat), t + d = m → zW G F 0 0 (zfl I 9 (line * 30) t V) [(0, .ref (F.1 2)), (1, .int (zI line)), (2, .int (zI t))] [] 2 := by
    intro d
    induction d with
    | zero =>
      intro t htm
      have e : t = m := by omega
      subst e
      exact s_X2_numberTexts_2 (v26 := 0) hG hR hE hL (zRg_fl hr (fun k hk => by have := hVr k (by omega); omega)) (by omega) (by rw [ho _ _ (by decide)]; omega) (fun _ => ⟨rfl, rfl⟩) (fun h => absurd h (by rw [ho _ _ (by decide)]; omega)) (by omega) (fun h => absurd h (by rw [ho _ _ (by decide)]; omega))
    | succ d ih =>
      intro t htm
      have hv := hVr t (by omega)
      have hrg : zRg (zfl I 9 (line * 30) t V) := zRg_fl hr (fun k hk => by have := hVr k (by omega); omega)
      refine s_X2_numberTexts_2 (v26 := V t) hG hR hE hL hrg (by omega) (by rw [ho _ _ (by decide)]; omega) (fun h => absurd h (by rw [ho _ _ (by decide)]; omega)) (fun _ => ?_) (by omega) (fun _ => ?_)
      · refine c_X2_firstAlike hL hrg hline (zTk_c (ho _ _ (by decide)) (ho _ _ (by decide)) (hm4.2.2 t (by omega))) (fun l hl => ?_) (zfst_c (ho _ _ (by decide)) (ho _ _ (by decide)) (ho _ _ (by decide)) (ho _ _ (by decide)) (hV t (by omega)))
        have := ht l hl
        rw [ho _ _ (by decide)]
        exact ⟨this.1, this.2.1, fun t h => zTk_c (ho _ _ (by decide)) (ho _ _ (by decide)) (this.2.2 t h)⟩
      · rw [zfl_up rfl rfl]
        exact ih (t + 1) (by omega)
  have h := key m 0 (by omega)
  rw [zfl_0] at h
  exact h
def zkb (I : zStore) (line : Int) : Nat → Int := fun i => zkd (I 5 (line * 30 + i))
/-- the token rows after i bytes of the line were cut -/
def zct (I : zStore) (line : Int) (i : Nat) : zStore := zfl (zfl (zfl I 6 (line * 30) (zcnt (zkb I line) i) (zkn (zkb I line) i)) 7 (line * 30) (zcnt (zkb I line) i) (fun t => line * 30 + zsn (zkb I line) i t)) 8 (line * 30) (zcnt (zkb I line) i) (zzn (zkb I line) i)
theorem zct_o {I : zStore} {line : Int} {i c : Nat} {j : Int} (h6 : c ≠ 6) (h7 : c ≠ 7) (h8 : c ≠ 8) : zct I line i c j = I c j := by
  unfold zct
  rw [zfl_k h8, zfl_k h7, zfl_k h6]
theorem zzn_bd (kd : Nat → Int) : ∀ i t : Nat, 0 ≤ zzn kd i t ∧ zzn kd i t ≤ i
  | 0, _ => by simp [zzn]
  | i + 1, t => by
    have := zzn_bd kd i t
    simp only [zzn]
    repeat' split
    all_goals omega
theorem zsn_bd (kd : Nat → Int) : ∀ i t : Nat, 0 ≤ zsn kd i t ∧ zsn kd i t ≤ i
  | 0, _ => by simp [zsn]
  | i + 1, t => by
    have := zsn_bd kd i t
    simp only [zsn]
    split <;> omega
theorem zkn_bd {kd : Nat → Int} (h : ∀ i, 0 ≤ kd i ∧ kd i ≤ 3) : ∀ i t : Nat, 0 ≤ zkn kd i t ∧ zkn kd i t ≤ 3
  | 0, _ => by simp [zkn]
  | i + 1, t => by
    have := zkn_bd h i t
    have := h i
    simp only [zkn]
    split <;> omega
theorem zkb_bd {I : zStore} {line : Int} (i : Nat) : 0 ≤ zkb I line i ∧ zkb I line i ≤ 3 := zkd_bd
theorem zRg_ct {I : zStore} {line : Int} {i : Nat} (hr : zRg I) (hl : 0 ≤ line ∧ line < 12) (hi : i ≤ 1000) : zRg (zct I line i) :=
  zRg_fl (zRg_fl (zRg_fl hr fun t _ => by have := zkn_bd (kd := zkb I line) zkb_bd i t; omega) fun t _ => by have := zsn_bd (zkb I line) i t; omega) fun t _ => by have := zzn_bd (zkb I line) i t; omega
theorem zct_new {I : zStore} {line a s : Int} {i : Nat} (hn : znew (zkb I line) i = true) (ha : a = line * 30 + zcnt (zkb I line) i) (hs : s = line * 30 + i) : zup (zup (zup (zup (zct I line i) 6 a (zkb I line i)) 7 a s) 8 a 0) 8 a (0 + 1) = zct I line (i + 1) := by
  have hc : zcnt (zkb I line) (i + 1) = zcnt (zkb I line) i + 1 := by simp [zcnt, hn]
  unfold zct
  rw [zup_zup, hc]
  have e6 : zfl I 6 (line * 30) (zcnt (zkb I line) i) (zkn (zkb I line) i) = zfl I 6 (line * 30) (zcnt (zkb I line) i) (zkn (zkb I line) (i + 1)) := zfl_congr fun t ht => by simp only [zkn]; rw [if_neg (by omega)]
  have e7 : ∀ X : zStore, zfl X 7 (line * 30) (zcnt (zkb I line) i) (fun t => line * 30 + zsn (zkb I line) i t) = zfl X 7 (line * 30) (zcnt (zkb I line) i) (fun t => line * 30 + zsn (zkb I line) (i + 1) t) := fun X => zfl_congr fun t ht => by simp only [zsn]; rw [if_neg (by omega)]
  have e8 : ∀ X : zStore, zfl X 8 (line * 30) (zcnt (zkb I line) i) (zzn (zkb I line) i) = zfl X 8 (line * 30) (zcnt (zkb I line) i) (zzn (zkb I line) (i + 1)) := fun X => zfl_congr fun t ht => by simp only [zzn]; rw [if_pos hn, if_neg (by omega)]
  rw [e8, e7, e6]
  have f6 : zkn (zkb I line) (i + 1) (zcnt (zkb I line) i) = zkb I line i := if_pos ⟨hn, rfl⟩
  have f7 : zsn (zkb I line) (i + 1) (zcnt (zkb I line) i) = i := if_pos ⟨hn, rfl⟩
  have f8 : zzn (zkb I line) (i + 1) (zcnt (zkb I line) i) = 0 + 1 := (if_pos hn).trans (if_pos rfl)
  rw [zup_fl (k' := 6) (k := 8) (by decide), zup_fl (k' := 6) (k := 7) (by decide), zfl_up f6.symm ha]
  rw [zup_fl (k' := 7) (k := 8) (by decide), zfl_up (f8.symm) ha, zfl_up (by rw [hs]; show _ = line * 30 + zsn (zkb I line) (i + 1) (zcnt (zkb I line) i); rw [f7]) ha]
theorem zct_old {I : zStore} {line a : Int} {i : Nat} (hn : znew (zkb I line) i = false) (hp : 0 < zcnt (zkb I line) i) (ha : a = line * 30 + zcnt (zkb I line) i - 1) : zup (zct I line i) 8 a (zct I line i 8 a + 1) = zct I line (i + 1) := by
  have hc : zcnt (zkb I line) (i + 1) = zcnt (zkb I line) i := by simp [zcnt, hn]
  have hn' : ¬ (znew (zkb I line) i = true) := by rw [hn]; decide
  have e0 : zct I line i 8 a = zzn (zkb I line) i (zcnt (zkb I line) i - 1) := zfl_in (by omega) (by omega)
  rw [e0]
  unfold zct
  rw [hc, zfl_set (t := zcnt (zkb I line) i - 1) (by omega) (by omega)]
  have e6 : zfl I 6 (line * 30) (zcnt (zkb I line) i) (zkn (zkb I line) i) = zfl I 6 (line * 30) (zcnt (zkb I line) i) (zkn (zkb I line) (i + 1)) := zfl_congr fun t ht => by simp only [zkn]; rw [if_neg (fun q => hn' q.1)]
  have e7 : ∀ X : zStore, zfl X 7 (line * 30) (zcnt (zkb I line) i) (fun t => line * 30 + zsn (zkb I line) i t) = zfl X 7 (line * 30) (zcnt (zkb I line) i) (fun t => line * 30 + zsn (zkb I line) (i + 1) t) := fun X => zfl_congr fun t ht => by simp only [zsn]; rw [if_neg (fun q => hn' q.1)]
  rw [e7, e6]
  refine zfl_congr fun t ht => ?_
  simp only [zzn]
  rw [if_neg hn']
  by_cases h : t = zcnt (zkb I line) i - 1
  · rw [if_pos h, if_pos (by omega), h]
  · rw [if_neg h, if_neg (by omega)]
set_option maxHeartbeats 4000000 in
theorem c_X2_cut {F : zFr} {I : zStore} {line : Int} {z : Nat} (hL : zLay F) (hr : zRg I) (hline : 0 ≤ line ∧ line < 12) (hz : I 3 line = z) (hz2 : z ≤ 30) (hbt : ∀ j : Int, line * 30 ≤ j → j < line * 30 + z → 0 ≤ I 5 j ∧ I 5 j ≤ 126) : ∀ (l : Launch) (D : va_G) (cs : Nat → ClassId), l.stackTraces = false → zMt l yX2_cut cX2_cut 8 none rm_X2_cut D cs F I [.ref (F.1 2), .int (zI line)] (fun r I' => r = none ∧ I' = zup (zct I line z) 4 line (zcnt (zkb I line) z)) := by
  intro l D cs hst
  refine zMt.ofV hst (by decide +kernel) (Nat.le_of_ble_eq_true rfl) fun G hG hR hE => ?_
  refine s_X2_cut_0 hG hR hE hL hr ?_
  have key : ∀ (d i : Nat), i + d = z → ∀ pl lk : Int, (i = 0 → pl = line * 30 ∧ lk = -1) → (0 < i → pl = line * 30 + zcnt (zkb I line) i - 1 ∧ lk = zkb I line (i - 1)) → zW G F 0 0 (zct I line i) [(0, .ref (F.1 2)), (1, .int (zI line)), (2, .int (zI (line * 30))), (3, .int (zI (zcnt (zkb I line) i))), (4, .int (zI pl)), (5, .int (zI lk)), (6, .int (zI i))] [] 16 := by
    intro d
    induction d with
    | zero =>
      intro i hi pl lk h0 h1
      have e : i = z := by omega
      subst e
      have hc := zcnt_le (zkb I line) i
      have hc2 := zcnt_pos (zkb I line) i
      have hk := zkb_bd (I := I) (line := line) (i - 1)
      have hpl : 0 ≤ pl ∧ pl < 360 ∧ -1 ≤ lk ∧ lk ≤ 3 := by
        rcases Nat.eq_zero_or_pos i with e | e
        · have := h0 e; omega
        · have := h1 e; have := hc2 e; omega
      exact s_X2_cut_16 hG hR hE hL (zRg_ct hr hline (by omega)) hline rfl (by rw [zct_o (by decide) (by decide) (by decide)]; omega) (by omega) (by omega) (fun j a1 a2 => by rw [zct_o (by decide) (by decide) (by decide)] at a2 ⊢; exact hbt j a1 (by omega)) (fun _ => ⟨rfl, rfl⟩) (fun h => absurd h (by rw [zct_o (by decide) (by decide) (by decide)]; omega)) (fun h => absurd h (by rw [zct_o (by decide) (by decide) (by decide)]; omega)) (fun h => absurd h (by rw [zct_o (by decide) (by decide) (by decide)]; omega))
    | succ d ih =>
      intro i hi pl lk h0 h1
      have hc := zcnt_le (zkb I line) i
      have hc2 := zcnt_pos (zkb I line) i
      have hk := zkb_bd (I := I) (line := line) (i - 1)
      have hpl : 0 ≤ pl ∧ pl < 360 ∧ -1 ≤ lk ∧ lk ≤ 3 := by
        rcases Nat.eq_zero_or_pos i with e | e
        · have := h0 e; omega
        · have := h1 e; have := hc2 e; omega
      have e5 : zkd (zct I line i 5 (line * 30 + i)) = zkb I line i := by rw [zct_o (by decide) (by decide) (by decide)]; rfl
      have hnew : znew (zkb I line) i = true → zW G F 0 0 (zup (zup (zup (zup (zct I line i) 6 (line * 30 + zcnt (zkb I line) i) (zkb I line i)) 7 (line * 30 + zcnt (zkb I line) i) (line * 30 + i)) 8 (line * 30 + zcnt (zkb I line) i) 0) 8 (line * 30 + zcnt (zkb I line) i) (0 + 1)) [(0, .ref (F.1 2)), (1, .int (zI line)), (2, .int (zI (line * 30))), (3, .int (zI (zcnt (zkb I line) i + 1))), (4, .int (zI (line * 30 + zcnt (zkb I line) i))), (5, .int (zI (zkb I line i))), (6, .int (zI (i + 1)))] [] 16 := fun hn => by
        have hcc : zcnt (zkb I line) (i + 1) = zcnt (zkb I line) i + 1 := by simp [zcnt, hn]
        rw [zct_new hn rfl rfl]
        have h := ih (i + 1) (by omega) (line * 30 + zcnt (zkb I line) i) (zkb I line i) (fun h => absurd h (by omega)) (fun _ => ⟨by rw [hcc]; omega, rfl⟩)
        rw [hcc] at h
        exact h
      refine s_X2_cut_16 hG hR hE hL (zRg_ct hr hline (by omega)) hline rfl (by rw [zct_o (by decide) (by decide) (by decide)]; omega) (by omega) (by omega) (fun j a1 a2 => by rw [zct_o (by decide) (by decide) (by decide)] at a2 ⊢; exact hbt j a1 (by omega)) (fun h => absurd h (by rw [zct_o (by decide) (by decide) (by decide)]; omega)) (fun _ e => ?_) (fun _ e e3 => ?_) (fun _ e e3 => ?_)
      · rw [e5] at e ⊢
        refine hnew (decide_eq_true ?_)
        rcases Nat.eq_zero_or_pos i with q | q
        · exact Or.inl q
        · exact Or.inr (Or.inr (by rw [← (h1 q).2]; exact e))
      · rw [e5] at e e3 ⊢
        have hi0 : 0 < i := by
          rcases Nat.eq_zero_or_pos i with q | q
          · have := (h0 q).2
            have := zkb_bd (I := I) (line := line) i
            omega
          · exact q
        have hn : znew (zkb I line) i = false := decide_eq_false (by rw [← (h1 hi0).2]; omega)
        have hcc : zcnt (zkb I line) (i + 1) = zcnt (zkb I line) i := by simp [zcnt, hn]
        have hpe := (h1 hi0).1
        rw [zct_old hn (hc2 hi0) hpe]
        have h := ih (i + 1) (by omega) pl (zkb I line i) (fun h => absurd h (by omega)) (fun _ => ⟨by rw [hcc]; exact hpe, rfl⟩)
        rw [hcc] at h
        exact h
      · rw [e5] at e3 ⊢
        exact hnew (decide_eq_true (Or.inr (Or.inl e3)))
  have h := key z 0 (by omega) (line * 30) (-1) (fun _ => ⟨rfl, rfl⟩) (fun h => absurd h (by omega))
  have e : zct I line 0 = I := by
    unfold zct
    simp only [zcnt]
    rw [zfl_0, zfl_0, zfl_0]
  rw [e] at h
  exact h
