theorem zm_X4_142 : zMath "LineLearnerModel" 142 Lib.Math.max.name Lib.Math.max.code := ⟨kw816, kw248, kw12, kw249⟩
abbrev rm_X4_setCosts : Room := { frames := 1, cells := 0, slots := 0, locals := 21 }
set_option maxRecDepth 100000 in
set_option maxHeartbeats 4000000 in
theorem s_X4_setCosts {G : zCx} {F : zFr} {I : zStore} {post : Option Value → zStore → Prop}{nc : Int} {ns : Int} {nf : Int} (hG : zOK G "LineLearnerModel" cX4_setCosts 5) (hR : zRoom G rm_X4_setCosts) (hE : zRetZ G F cX4_setCosts 0 0 post) (hL : zLayM F) (hr : zRg I) (h1 : -2147483648 ≤ nc ∧ nc < 2147483648) (h2 : -2147483648 ≤ ns ∧ ns < 2147483648) (h3 : -2147483648 ≤ nf ∧ nf < 2147483648)
    (k1 : ((min nc (min ns nf)) < 0) → ((1 : Int) ≠ 0) → post (some (.int (zI 0))) (zup I 110 0 1))
    (k2 : (0 ≤ (min nc (min ns nf))) → ((max nc (max ns nf)) ≤ 20) → ((0 : Int) = 0) → ((I 110 10) ≠ nc) → post (some (.int (zI 1))) (zup (zup (zup (zup (zup I 110 0 0) 110 10 nc) 110 11 ns) 110 12 nf) 110 18 0))
    (k3 : (0 ≤ (min nc (min ns nf))) → ((max nc (max ns nf)) ≤ 20) → ((0 : Int) = 0) → ((I 110 10) = nc) → ((I 110 11) ≠ ns) → post (some (.int (zI 1))) (zup (zup (zup (zup (zup I 110 0 0) 110 10 nc) 110 11 ns) 110 12 nf) 110 18 0))
    (k4 : (0 ≤ (min nc (min ns nf))) → ((max nc (max ns nf)) ≤ 20) → ((0 : Int) = 0) → ((I 110 10) = nc) → ((I 110 11) = ns) → ((I 110 12) = nf) → post (some (.int (zI 0))) (zup (zup (zup (zup (zup I 110 0 0) 110 10 nc) 110 11 ns) 110 12 nf) 110 18 0))
    (k5 : (0 ≤ (min nc (min ns nf))) → ((max nc (max ns nf)) ≤ 20) → ((0 : Int) = 0) → ((I 110 10) = nc) → ((I 110 11) = ns) → ((I 110 12) ≠ nf) → post (some (.int (zI 1))) (zup (zup (zup (zup (zup I 110 0 0) 110 10 nc) 110 11 ns) 110 12 nf) 110 18 0))
    (k6 : (0 ≤ (min nc (min ns nf))) → (20 < (max nc (max ns nf))) → ((1 : Int) ≠ 0) → post (some (.int (zI 0))) (zup I 110 0 1)) :
    zW G F 0 0 I [(0, .ref (F.1 110)), (1, .int (zI nc)), (2, .int (zI ns)), (3, .int (zI nf))] [] 0 := by
  refine z_aload_n 0 hG dX4_setCosts_0 rfl rfl ?_
  refine z_iload_n 1 hG dX4_setCosts_1 rfl rfl ?_
  refine z_iload_n 2 hG dX4_setCosts_2 rfl rfl ?_
  refine z_iload_n 3 hG dX4_setCosts_3 rfl rfl ?_
  refine z_min hG hR zm_X4_134 (by decide) (Nat.le_of_ble_eq_true rfl) (by omega) (by omega) dX4_setCosts_4 ?_
  refine z_min hG hR zm_X4_134 (by decide) (Nat.le_of_ble_eq_true rfl) (by omega) (by omega) dX4_setCosts_7 ?_
  refine z_if_lt (tgt := 27) hG dX4_setCosts_10 (by decide) (by omega) (fun c10 => ?_) (fun c10 => ?_)
  · skip
    refine z_iconst 1 hG dX4_setCosts_27 ?_
    refine z_goto (tgt := 32) hG dX4_setCosts_28 (by decide) ?_
    refine z_putI hG zcl4 (zltM hL (by decide)) (zl110 hL) 0 (by decide) (ki := 0) rfl rfl kw677 rfl rfl dX4_setCosts_32 ?_
    refine z_aload_n 0 hG dX4_setCosts_35 rfl rfl ?_
    refine z_getI (v := 1) hG zcl4 (zltM hL (by decide)) (zl110 hL) 0 (by decide) rfl rfl (zup_at _ _ _ _) kw677 dX4_setCosts_36 ?_
    refine z_if_eq (tgt := 44) hG dX4_setCosts_39 (by decide) (by decide) (fun c39 => ?_) (fun c39 => ?_)
    · skip
      exact absurd c39 (by decide)
    · skip
      refine z_iconst 0 hG dX4_setCosts_42 ?_
      exact hE _ _ _ _ dX4_setCosts_43 (by first | decide | omega) (k1 c10 c39)
  · skip
    refine z_iload_n 1 hG dX4_setCosts_13 rfl rfl ?_
    refine z_iload_n 2 hG dX4_setCosts_14 rfl rfl ?_
    refine z_iload_n 3 hG dX4_setCosts_15 rfl rfl ?_
    refine z_max hG hR zm_X4_142 (by decide) (Nat.le_of_ble_eq_true rfl) (by omega) (by omega) dX4_setCosts_16 ?_
    refine z_max hG hR zm_X4_142 (by decide) (Nat.le_of_ble_eq_true rfl) (by omega) (by omega) dX4_setCosts_19 ?_
    refine z_bipush 20 hG dX4_setCosts_22 (by decide) ?_
    refine z_icmp_le (tgt := 31) hG dX4_setCosts_24 (by decide) (by omega) (by decide) (fun c24 => ?_) (fun c24 => ?_)
    · skip
      refine z_iconst 0 hG dX4_setCosts_31 ?_
      refine z_putI hG zcl4 (zltM hL (by decide)) (zl110 hL) 0 (by decide) (ki := 0) rfl rfl kw677 rfl rfl dX4_setCosts_32 ?_
      refine z_aload_n 0 hG dX4_setCosts_35 rfl rfl ?_
      refine z_getI (v := 0) hG zcl4 (zltM hL (by decide)) (zl110 hL) 0 (by decide) rfl rfl (zup_at _ _ _ _) kw677 dX4_setCosts_36 ?_
      refine z_if_eq (tgt := 44) hG dX4_setCosts_39 (by decide) (by decide) (fun c39 => ?_) (fun c39 => ?_)
      · skip
        refine z_aload_n 0 hG dX4_setCosts_44 rfl rfl ?_
        refine z_getI (v := I 110 10) hG zcl4 (zltM hL (by decide)) (zl110 hL) 10 (by decide) rfl rfl (zup_i (by decide)) kw687 dX4_setCosts_45 ?_
        refine z_iload_n 1 hG dX4_setCosts_48 rfl rfl ?_
        refine z_icmp_ne (tgt := 68) hG dX4_setCosts_49 (by decide) (hr _ _) (by omega) (fun c49 => ?_) (fun c49 => ?_)
        · skip
          refine z_iconst 1 hG dX4_setCosts_68 ?_
          refine z_goto (tgt := 73) hG dX4_setCosts_69 (by decide) ?_
          refine z_istore (lv' := [(4, .int (zI 1)), (0, .ref (F.1 110)), (1, .int (zI nc)), (2, .int (zI ns)), (3, .int (zI nf))]) hG dX4_setCosts_73 (by decide) rfl ?_
          refine z_aload_n 1 hG dX4_setCosts_75 rfl rfl ?_
          refine z_iload_n 2 hG dX4_setCosts_76 rfl rfl ?_
          refine z_putI hG zcl4 (zltM hL (by decide)) (zl110 hL) 10 (by decide) (ki := 10) rfl rfl kw687 rfl rfl dX4_setCosts_77 ?_
          refine z_aload_n 1 hG dX4_setCosts_80 rfl rfl ?_
          refine z_iload_n 3 hG dX4_setCosts_81 rfl rfl ?_
          refine z_putI hG zcl4 (zltM hL (by decide)) (zl110 hL) 11 (by decide) (ki := 11) rfl rfl kw688 rfl rfl dX4_setCosts_82 ?_
          refine z_aload_n 1 hG dX4_setCosts_85 rfl rfl ?_
          refine z_iload_n 4 hG dX4_setCosts_86 rfl rfl ?_
          refine z_putI hG zcl4 (zltM hL (by decide)) (zl110 hL) 12 (by decide) (ki := 12) rfl rfl kw689 rfl rfl dX4_setCosts_87 ?_
          refine z_aload_n 1 hG dX4_setCosts_90 rfl rfl ?_
          refine z_iconst 0 hG dX4_setCosts_91 ?_
          refine z_putZ hG zcl4 (zltM hL (by decide)) (zl110 hL) 18 (by decide) (ki := 18) rfl rfl kw695 rfl rfl (by decide) dX4_setCosts_92 ?_
          refine z_iload 0 hG dX4_setCosts_95 rfl ?_
          exact hE _ _ _ _ dX4_setCosts_97 (by first | decide | omega) (k2 c10 c24 c39 c49)
        · skip
          refine z_aload_n 0 hG dX4_setCosts_52 rfl rfl ?_
          refine z_getI (v := I 110 11) hG zcl4 (zltM hL (by decide)) (zl110 hL) 11 (by decide) rfl rfl (zup_i (by decide)) kw688 dX4_setCosts_53 ?_
          refine z_iload_n 2 hG dX4_setCosts_56 rfl rfl ?_
          refine z_icmp_ne (tgt := 68) hG dX4_setCosts_57 (by decide) (hr _ _) (by omega) (fun c57 => ?_) (fun c57 => ?_)
          · skip
            refine z_iconst 1 hG dX4_setCosts_68 ?_
            refine z_goto (tgt := 73) hG dX4_setCosts_69 (by decide) ?_
            refine z_istore (lv' := [(4, .int (zI 1)), (0, .ref (F.1 110)), (1, .int (zI nc)), (2, .int (zI ns)), (3, .int (zI nf))]) hG dX4_setCosts_73 (by decide) rfl ?_
            refine z_aload_n 1 hG dX4_setCosts_75 rfl rfl ?_
            refine z_iload_n 2 hG dX4_setCosts_76 rfl rfl ?_
            refine z_putI hG zcl4 (zltM hL (by decide)) (zl110 hL) 10 (by decide) (ki := 10) rfl rfl kw687 rfl rfl dX4_setCosts_77 ?_
            refine z_aload_n 1 hG dX4_setCosts_80 rfl rfl ?_
            refine z_iload_n 3 hG dX4_setCosts_81 rfl rfl ?_
            refine z_putI hG zcl4 (zltM hL (by decide)) (zl110 hL) 11 (by decide) (ki := 11) rfl rfl kw688 rfl rfl dX4_setCosts_82 ?_
            refine z_aload_n 1 hG dX4_setCosts_85 rfl rfl ?_
            refine z_iload_n 4 hG dX4_setCosts_86 rfl rfl ?_
            refine z_putI hG zcl4 (zltM hL (by decide)) (zl110 hL) 12 (by decide) (ki := 12) rfl rfl kw689 rfl rfl dX4_setCosts_87 ?_
            refine z_aload_n 1 hG dX4_setCosts_90 rfl rfl ?_
            refine z_iconst 0 hG dX4_setCosts_91 ?_
            refine z_putZ hG zcl4 (zltM hL (by decide)) (zl110 hL) 18 (by decide) (ki := 18) rfl rfl kw695 rfl rfl (by decide) dX4_setCosts_92 ?_
            refine z_iload 0 hG dX4_setCosts_95 rfl ?_
            exact hE _ _ _ _ dX4_setCosts_97 (by first | decide | omega) (k3 c10 c24 c39 c49 c57)
          · skip
            refine z_aload_n 0 hG dX4_setCosts_60 rfl rfl ?_
            refine z_getI (v := I 110 12) hG zcl4 (zltM hL (by decide)) (zl110 hL) 12 (by decide) rfl rfl (zup_i (by decide)) kw689 dX4_setCosts_61 ?_
            refine z_iload_n 3 hG dX4_setCosts_64 rfl rfl ?_
            refine z_icmp_eq (tgt := 72) hG dX4_setCosts_65 (by decide) (hr _ _) (by omega) (fun c65 => ?_) (fun c65 => ?_)
            · skip
              refine z_iconst 0 hG dX4_setCosts_72 ?_
              refine z_istore (lv' := [(4, .int (zI 0)), (0, .ref (F.1 110)), (1, .int (zI nc)), (2, .int (zI ns)), (3, .int (zI nf))]) hG dX4_setCosts_73 (by decide) rfl ?_
              refine z_aload_n 1 hG dX4_setCosts_75 rfl rfl ?_
              refine z_iload_n 2 hG dX4_setCosts_76 rfl rfl ?_
              refine z_putI hG zcl4 (zltM hL (by decide)) (zl110 hL) 10 (by decide) (ki := 10) rfl rfl kw687 rfl rfl dX4_setCosts_77 ?_
              refine z_aload_n 1 hG dX4_setCosts_80 rfl rfl ?_
              refine z_iload_n 3 hG dX4_setCosts_81 rfl rfl ?_
              refine z_putI hG zcl4 (zltM hL (by decide)) (zl110 hL) 11 (by decide) (ki := 11) rfl rfl kw688 rfl rfl dX4_setCosts_82 ?_
              refine z_aload_n 1 hG dX4_setCosts_85 rfl rfl ?_
              refine z_iload_n 4 hG dX4_setCosts_86 rfl rfl ?_
              refine z_putI hG zcl4 (zltM hL (by decide)) (zl110 hL) 12 (by decide) (ki := 12) rfl rfl kw689 rfl rfl dX4_setCosts_87 ?_
              refine z_aload_n 1 hG dX4_setCosts_90 rfl rfl ?_
              refine z_iconst 0 hG dX4_setCosts_91 ?_
              refine z_putZ hG zcl4 (zltM hL (by decide)) (zl110 hL) 18 (by decide) (ki := 18) rfl rfl kw695 rfl rfl (by decide) dX4_setCosts_92 ?_
              refine z_iload 0 hG dX4_setCosts_95 rfl ?_
              exact hE _ _ _ _ dX4_setCosts_97 (by first | decide | omega) (k4 c10 c24 c39 c49 c57 c65)
            · skip
              refine z_iconst 1 hG dX4_setCosts_68 ?_
              refine z_goto (tgt := 73) hG dX4_setCosts_69 (by decide) ?_
              refine z_istore (lv' := [(4, .int (zI 1)), (0, .ref (F.1 110)), (1, .int (zI nc)), (2, .int (zI ns)), (3, .int (zI nf))]) hG dX4_setCosts_73 (by decide) rfl ?_
              refine z_aload_n 1 hG dX4_setCosts_75 rfl rfl ?_
              refine z_iload_n 2 hG dX4_setCosts_76 rfl rfl ?_
              refine z_putI hG zcl4 (zltM hL (by decide)) (zl110 hL) 10 (by decide) (ki := 10) rfl rfl kw687 rfl rfl dX4_setCosts_77 ?_
              refine z_aload_n 1 hG dX4_setCosts_80 rfl rfl ?_
              refine z_iload_n 3 hG dX4_setCosts_81 rfl rfl ?_
              refine z_putI hG zcl4 (zltM hL (by decide)) (zl110 hL) 11 (by decide) (ki := 11) rfl rfl kw688 rfl rfl dX4_setCosts_82 ?_
              refine z_aload_n 1 hG dX4_setCosts_85 rfl rfl ?_
              refine z_iload_n 4 hG dX4_setCosts_86 rfl rfl ?_
              refine z_putI hG zcl4 (zltM hL (by decide)) (zl110 hL) 12 (by decide) (ki := 12) rfl rfl kw689 rfl rfl dX4_setCosts_87 ?_
              refine z_aload_n 1 hG dX4_setCosts_90 rfl rfl ?_
              refine z_iconst 0 hG dX4_setCosts_91 ?_
              refine z_putZ hG zcl4 (zltM hL (by decide)) (zl110 hL) 18 (by decide) (ki := 18) rfl rfl kw695 rfl rfl (by decide) dX4_setCosts_92 ?_
              refine z_iload 0 hG dX4_setCosts_95 rfl ?_
              exact hE _ _ _ _ dX4_setCosts_97 (by first | decide | omega) (k5 c10 c24 c39 c49 c57 c65)
      · skip
        exact absurd c39 (by decide)
    · skip
      refine z_iconst 1 hG dX4_setCosts_27 ?_
      refine z_goto (tgt := 32) hG dX4_setCosts_28 (by decide) ?_
      refine z_putI hG zcl4 (zltM hL (by decide)) (zl110 hL) 0 (by decide) (ki := 0) rfl rfl kw677 rfl rfl dX4_setCosts_32 ?_
      refine z_aload_n 0 hG dX4_setCosts_35 rfl rfl ?_
      refine z_getI (v := 1) hG zcl4 (zltM hL (by decide)) (zl110 hL) 0 (by decide) rfl rfl (zup_at _ _ _ _) kw677 dX4_setCosts_36 ?_
      refine z_if_eq (tgt := 44) hG dX4_setCosts_39 (by decide) (by decide) (fun c39 => ?_) (fun c39 => ?_)
      · skip
        exact absurd c39 (by decide)
      · skip
        refine z_iconst 0 hG dX4_setCosts_42 ?_
        exact hE _ _ _ _ dX4_setCosts_43 (by first | decide | omega) (k6 c10 c24 c39)

theorem c_X4_setCosts {F : zFr} {I : zStore}  {nc : Int} {ns : Int} {nf : Int}  (hL : zLayM F) (hr : zRg I) (h1 : -2147483648 ≤ nc ∧ nc < 2147483648) (h2 : -2147483648 ≤ ns ∧ ns < 2147483648) (h3 : -2147483648 ≤ nf ∧ nf < 2147483648) : ∀ (l : Launch) (D : va_G) (cs : Nat → ClassId), l.stackTraces = false → zMt l yX4_setCosts cX4_setCosts 5 (some .boolean) rm_X4_setCosts D cs F I [.ref (F.1 110), .int (zI nc), .int (zI ns), .int (zI nf)] (fun r I' => r = some (.int (zI (if ((0 ≤ nc ∧ nc ≤ 20) ∧ (0 ≤ ns ∧ ns ≤ 20) ∧ 0 ≤ nf ∧ nf ≤ 20) then (if nc ≠ I 110 10 ∨ ns ≠ I 110 11 ∨ nf ≠ I 110 12 then 1 else 0) else 0))) ∧ I' = (if ((0 ≤ nc ∧ nc ≤ 20) ∧ (0 ≤ ns ∧ ns ≤ 20) ∧ 0 ≤ nf ∧ nf ≤ 20) then zup (zup (zup (zup (zup I 110 0 0) 110 10 nc) 110 11 ns) 110 12 nf) 110 18 0 else zup I 110 0 1)) :=
  fun l D cs hst => zMt.ofZ hst (by decide +kernel) (Nat.le_of_ble_eq_true rfl) fun G hG hR hE => s_X4_setCosts hG hR hE hL hr h1 h2 h3
    (by intros; refine ⟨?_, ?_⟩ <;> (repeat' split) <;> first | rfl | (exfalso; omega) | exact zup_up _ _ _ _ _ | (simp only [zup_self]; done) | omega)
    (by intros; refine ⟨?_, ?_⟩ <;> (repeat' split) <;> first | rfl | (exfalso; omega) | exact zup_up _ _ _ _ _ | (simp only [zup_self]; done) | omega)
    (by intros; refine ⟨?_, ?_⟩ <;> (repeat' split) <;> first | rfl | (exfalso; omega) | exact zup_up _ _ _ _ _ | (simp only [zup_self]; done) | omega)
    (by intros; refine ⟨?_, ?_⟩ <;> (repeat' split) <;> first | rfl | (exfalso; omega) | exact zup_up _ _ _ _ _ | (simp only [zup_self]; done) | omega)
    (by intros; refine ⟨?_, ?_⟩ <;> (repeat' split) <;> first | rfl | (exfalso; omega) | exact zup_up _ _ _ _ _ | (simp only [zup_self]; done) | omega)
    (by intros; refine ⟨?_, ?_⟩ <;> (repeat' split) <;> first | rfl | (exfalso; omega) | exact zup_up _ _ _ _ _ | (simp only [zup_self]; done) | omega)
abbrev rm_X4_clear : Room := { frames := 1, cells := 0, slots := 0, locals := 20 }
set_option maxRecDepth 100000 in
set_option maxHeartbeats 4000000 in
theorem s_X4_clear {G : zCx} {F : zFr} {I : zStore} {post : Option Value → zStore → Prop} (hG : zOK G "LineLearnerModel" cX4_clear 2) (hR : zRoom G rm_X4_clear) (hE : zRetI G F cX4_clear 0 0 post) (hL : zLayM F) (hr : zRg I) (hk : 0 ≤ I 119 0 ∧ I 119 0 < 4096)
    (k1 : post (some (.int (zI (zbc (I 119 0))))) (zup (zup (zup I 110 0 0) 119 0 0) 118 0 0)) :
    zW G F 0 0 I [(0, .ref (F.1 110))] [] 0 := by
  refine z_aload_n 0 hG dX4_clear_0 rfl rfl ?_
  refine z_iconst 0 hG dX4_clear_1 ?_
  refine z_putI hG zcl4 (zltM hL (by decide)) (zl110 hL) 0 (by decide) (ki := 0) rfl rfl kw677 rfl rfl dX4_clear_2 ?_
  refine z_aload_n 0 hG dX4_clear_5 rfl rfl ?_
  refine z_getR (t := 119) hG zcl4 (zltM hL (by decide)) (zl110 hL) 14 (by decide) rfl kw691 dX4_clear_6 ?_
  refine z_iconst 0 hG dX4_clear_9 ?_
  refine z_iald (v := I 119 0) hG (zltM hL (by decide)) (zl119 hL) (by decide) (by decide) (zup_k (by decide)) dX4_clear_10 ?_
  refine z_callS [.int (zI (I 119 0))] hG hR (c_J_bc (zRg_up hr (by decide)) (by first | assumption | omega | ((try simp only [zup_k, zup_i, zup_at, ne_eq, not_false_eq_true, Nat.reduceEqDiff]); simp only [zup_at]; omega))) hd_J_bc kw848 kw849 (by decide) (by decide) (by decide) (by decide) rfl rfl (Nat.le_of_ble_eq_true rfl) dX4_clear_11 (fun r I' hp => ?_)
  rw [hp.1, hp.2]
  have ha11_0 : 0 ≤ (zbc (I 119 0)) ∧ (zbc (I 119 0)) ≤ 12 := zbc_bd _
  show zW G F 0 0 (zup I 110 0 0) [(0, .ref (F.1 110))] [.int (zI (zbc (I 119 0)))] 14
  refine z_istore_n (lv' := [(1, .int (zI (zbc (I 119 0)))), (0, .ref (F.1 110))]) hG dX4_clear_14 rfl (by decide) rfl ?_
  refine z_aload_n 1 hG dX4_clear_15 rfl rfl ?_
  refine z_getR (t := 119) hG zcl4 (zltM hL (by decide)) (zl110 hL) 14 (by decide) rfl kw691 dX4_clear_16 ?_
  refine z_iconst 0 hG dX4_clear_19 ?_
  refine z_iconst 0 hG dX4_clear_20 ?_
  refine z_iast hG (zltM hL (by decide)) (zl119 hL) (by decide) (by decide) dX4_clear_21 ?_
  refine z_aload_n 1 hG dX4_clear_22 rfl rfl ?_
  refine z_getR (t := 118) hG zcl4 (zltM hL (by decide)) (zl110 hL) 13 (by decide) rfl kw690 dX4_clear_23 ?_
  refine z_iconst 0 hG dX4_clear_26 ?_
  refine z_iconst 0 hG dX4_clear_27 ?_
  refine z_iast hG (zltM hL (by decide)) (zl118 hL) (by decide) (by decide) dX4_clear_28 ?_
  refine z_iload_n 0 hG dX4_clear_29 rfl rfl ?_
  exact hE _ _ _ _ dX4_clear_30 (k1)

theorem c_X4_clear {F : zFr} {I : zStore}    (hL : zLayM F) (hr : zRg I) (hk : 0 ≤ I 119 0 ∧ I 119 0 < 4096) : ∀ (l : Launch) (D : va_G) (cs : Nat → ClassId), l.stackTraces = false → zMt l yX4_clear cX4_clear 2 (some .int) rm_X4_clear D cs F I [.ref (F.1 110)] (fun r I' => r = some (.int (zI (zbc (I 119 0)))) ∧ I' = zup (zup (zup I 110 0 0) 119 0 0) 118 0 0) :=
  fun l D cs hst => zMt.ofI hst (by decide +kernel) (Nat.le_of_ble_eq_true rfl) fun G hG hR hE => s_X4_clear hG hR hE hL hr hk
    (by intros; refine ⟨?_, ?_⟩ <;> (repeat' split) <;> first | rfl | (exfalso; omega) | exact zup_up _ _ _ _ _ | (simp only [zup_self]; done))
abbrev rm_X4_isMerged : Room := { frames := 1, cells := 0, slots := 0, locals := 21 }
set_option maxRecDepth 100000 in
set_option maxHeartbeats 4000000 in
theorem s_X4_isMerged {G : zCx} {F : zFr} {I : zStore} {post : Option Value → zStore → Prop}{line : Int} (hG : zOK G "LineLearnerModel" cX4_isMerged 2) (hR : zRoom G rm_X4_isMerged) (hE : zRetZ G F cX4_isMerged 0 0 post) (hL : zLayM F) (hr : zRg I) (hl : -2147483648 ≤ line ∧ line < 2147483648)
    (k1 : (¬ (0 ≤ line ∧ line < I 110 3)) → ((1 : Int) ≠ 0) → post (some (.int (zI 0))) (zup I 110 0 1))
    (k2 : (0 ≤ line ∧ line < I 110 3) → ((0 : Int) = 0) → ((zand (zshr (I 119 0) line) 1) ≠ 1) → post (some (.int (zI 0))) (zup I 110 0 0))
    (k3 : (0 ≤ line ∧ line < I 110 3) → ((0 : Int) = 0) → ((zand (zshr (I 119 0) line) 1) = 1) → post (some (.int (zI 1))) (zup I 110 0 0)) :
    zW G F 0 0 I [(0, .ref (F.1 110)), (1, .int (zI line))] [] 0 := by
  refine z_aload_n 0 hG dX4_isMerged_0 rfl rfl ?_
  refine z_aload_n 0 hG dX4_isMerged_1 rfl rfl ?_
  refine z_iload_n 1 hG dX4_isMerged_2 rfl rfl ?_
  refine z_callV [.int (zI line)] hG hR (c_X4_isLine hL hr (by first | assumption | omega | ((try simp only [zup_k, zup_i, zup_at, ne_eq, not_false_eq_true, Nat.reduceEqDiff]); simp only [zup_at]; omega))) hd_X4_isLine kw787 kw789 kp24 rfl (zltM hL (by decide)) (zl110 hL) (by decide) (by decide) (by decide) (by decide) rfl rfl (Nat.le_of_ble_eq_true rfl) dX4_isMerged_3 (fun r I' hp => ?_)
  rw [hp.1, hp.2]
  show zW G F 0 0 I [(0, .ref (F.1 110)), (1, .int (zI line))] [.int (zI (if 0 ≤ line ∧ line < I 110 3 then 1 else 0)), .ref (F.1 110)] 6
  refine z_if_eq (tgt := 13) hG dX4_isMerged_6 (by decide) (by omega) (fun c6 => ?_) (fun c6 => ?_)
  · skip
    have c6b := zif_n c6
    refine z_iconst 1 hG dX4_isMerged_13 ?_
    refine z_putI hG zcl4 (zltM hL (by decide)) (zl110 hL) 0 (by decide) (ki := 0) rfl rfl kw677 rfl rfl dX4_isMerged_14 ?_
    refine z_aload_n 0 hG dX4_isMerged_17 rfl rfl ?_
    refine z_getI (v := 1) hG zcl4 (zltM hL (by decide)) (zl110 hL) 0 (by decide) rfl rfl (zup_at _ _ _ _) kw677 dX4_isMerged_18 ?_
    refine z_if_ne (tgt := 42) hG dX4_isMerged_21 (by decide) (by decide) (fun c21 => ?_) (fun c21 => ?_)
    · skip
      refine z_iconst 0 hG dX4_isMerged_42 ?_
      exact hE _ _ _ _ dX4_isMerged_43 (by first | decide | omega) (k1 c6b c21)
    · skip
      exact absurd c21 (by decide)
  · skip
    have c6b := zif_y c6
    refine z_iconst 0 hG dX4_isMerged_9 ?_
    refine z_goto (tgt := 14) hG dX4_isMerged_10 (by decide) ?_
    refine z_putI hG zcl4 (zltM hL (by decide)) (zl110 hL) 0 (by decide) (ki := 0) rfl rfl kw677 rfl rfl dX4_isMerged_14 ?_
    refine z_aload_n 0 hG dX4_isMerged_17 rfl rfl ?_
    refine z_getI (v := 0) hG zcl4 (zltM hL (by decide)) (zl110 hL) 0 (by decide) rfl rfl (zup_at _ _ _ _) kw677 dX4_isMerged_18 ?_
    refine z_if_ne (tgt := 42) hG dX4_isMerged_21 (by decide) (by decide) (fun c21 => ?_) (fun c21 => ?_)
    · skip
      exact absurd c21 (by decide)
    · skip
      refine z_aload_n 0 hG dX4_isMerged_24 rfl rfl ?_
      refine z_getR (t := 119) hG zcl4 (zltM hL (by decide)) (zl110 hL) 14 (by decide) rfl kw691 dX4_isMerged_25 ?_
      refine z_iconst 0 hG dX4_isMerged_28 ?_
      refine z_iald (v := I 119 0) hG (zltM hL (by decide)) (zl119 hL) (by decide) (by decide) (zup_k (by decide)) dX4_isMerged_29 ?_
      refine z_iload_n 1 hG dX4_isMerged_30 rfl rfl ?_
      refine z_ishr hG dX4_isMerged_31 ?_
      refine z_iconst 1 hG dX4_isMerged_32 ?_
      refine z_iand hG dX4_isMerged_33 ?_
      refine z_iconst 1 hG dX4_isMerged_34 ?_
      have zz9 := zI_rng (zI (zshr (I 119 0) line) &&& zI 1)
      have zz8 : -2147483648 ≤ zand (zshr (I 119 0) line) 1 ∧ zand (zshr (I 119 0) line) 1 < 2147483648 := zz9
      refine z_icmp_ne (tgt := 42) hG dX4_isMerged_35 (by decide) (by omega) (by decide) (fun c35 => ?_) (fun c35 => ?_)
      · skip
        refine z_iconst 0 hG dX4_isMerged_42 ?_
        exact hE _ _ _ _ dX4_isMerged_43 (by first | decide | omega) (k2 c6b c21 c35)
      · skip
        refine z_iconst 1 hG dX4_isMerged_38 ?_
        refine z_goto (tgt := 43) hG dX4_isMerged_39 (by decide) ?_
        exact hE _ _ _ _ dX4_isMerged_43 (by first | decide | omega) (k3 c6b c21 c35)

theorem c_X4_isMerged {F : zFr} {I : zStore}  {line : Int}  (hL : zLayM F) (hr : zRg I) (hl : -2147483648 ≤ line ∧ line < 2147483648) : ∀ (l : Launch) (D : va_G) (cs : Nat → ClassId), l.stackTraces = false → zMt l yX4_isMerged cX4_isMerged 2 (some .boolean) rm_X4_isMerged D cs F I [.ref (F.1 110), .int (zI line)] (fun r I' => r = some (.int (zI (if (0 ≤ line ∧ line < I 110 3) ∧ zand (zshr (I 119 0) line) 1 = 1 then 1 else 0))) ∧ I' = zup I 110 0 (if 0 ≤ line ∧ line < I 110 3 then 0 else 1)) :=
  fun l D cs hst => zMt.ofZ hst (by decide +kernel) (Nat.le_of_ble_eq_true rfl) fun G hG hR hE => s_X4_isMerged hG hR hE hL hr hl
    (by intros; refine ⟨?_, ?_⟩ <;> (repeat' split) <;> first | rfl | (exfalso; omega) | exact zup_up _ _ _ _ _ | (simp only [zup_self]; done))
    (by intros; refine ⟨?_, ?_⟩ <;> (repeat' split) <;> first | rfl | (exfalso; omega) | exact zup_up _ _ _ _ _ | (simp only [zup_self]; done))
    (by intros; refine ⟨?_, ?_⟩ <;> (repeat' split) <;> first | rfl | (exfalso; omega) | exact zup_up _ _ _ _ _ | (simp only [zup_self]; done))
abbrev rm_X4_slotCount : Room := { frames := 0, cells := 0, slots := 0, locals := 0 }
set_option maxRecDepth 100000 in
set_option maxHeartbeats 4000000 in
theorem s_X4_slotCount {G : zCx} {F : zFr} {I : zStore} {post : Option Value → zStore → Prop} (hG : zOK G "LineLearnerModel" cX4_slotCount 1) (hR : zRoom G rm_X4_slotCount) (hE : zRetI G F cX4_slotCount 0 0 post) (hL : zLayM F) (hr : zRg I)
    (k1 : post (some (.int (zI (I 118 0)))) (zup I 110 0 0)) :
    zW G F 0 0 I [(0, .ref (F.1 110))] [] 0 := by
  refine z_aload_n 0 hG dX4_slotCount_0 rfl rfl ?_
  refine z_iconst 0 hG dX4_slotCount_1 ?_
  refine z_putI hG zcl4 (zltM hL (by decide)) (zl110 hL) 0 (by decide) (ki := 0) rfl rfl kw677 rfl rfl dX4_slotCount_2 ?_
  refine z_aload_n 0 hG dX4_slotCount_5 rfl rfl ?_
  refine z_getR (t := 118) hG zcl4 (zltM hL (by decide)) (zl110 hL) 13 (by decide) rfl kw690 dX4_slotCount_6 ?_
  refine z_iconst 0 hG dX4_slotCount_9 ?_
  refine z_iald (v := I 118 0) hG (zltM hL (by decide)) (zl118 hL) (by decide) (by decide) (zup_k (by decide)) dX4_slotCount_10 ?_
  exact hE _ _ _ _ dX4_slotCount_11 (k1)

theorem c_X4_slotCount {F : zFr} {I : zStore}    (hL : zLayM F) (hr : zRg I) : ∀ (l : Launch) (D : va_G) (cs : Nat → ClassId), l.stackTraces = false → zMt l yX4_slotCount cX4_slotCount 1 (some .int) rm_X4_slotCount D cs F I [.ref (F.1 110)] (fun r I' => r = some (.int (zI (I 118 0))) ∧ I' = zup I 110 0 0) :=
  fun l D cs hst => zMt.ofI hst (by decide +kernel) (Nat.le_of_ble_eq_true rfl) fun G hG hR hE => s_X4_slotCount hG hR hE hL hr
    (by intros; refine ⟨?_, ?_⟩ <;> (repeat' split) <;> first | rfl | (exfalso; omega) | exact zup_up _ _ _ _ _ | (simp only [zup_self]; done))
abbrev rm_X4_slotKind : Room := { frames := 1, cells := 0, slots := 0, locals := 21 }
set_option maxRecDepth 100000 in
set_option maxHeartbeats 4000000 in
theorem s_X4_slotKind {G : zCx} {F : zFr} {I : zStore} {post : Option Value → zStore → Prop}{slot : Int} (hG : zOK G "LineLearnerModel" cX4_slotKind 2) (hR : zRoom G rm_X4_slotKind) (hE : zRetI G F cX4_slotKind 0 0 post) (hL : zLayM F) (hr : zRg I) (hs : -2147483648 ≤ slot ∧ slot < 2147483648) (hf : 0 ≤ I 118 0 ∧ I 118 0 ≤ 40)
    (k1 : (¬ (0 ≤ slot ∧ slot < I 118 0)) → post (some (.int (zI 0))) (zup (zup I 110 0 0) 110 0 1))
    (k2 : (0 ≤ slot ∧ slot < I 118 0) → post (some (.int (zI (I 120 slot)))) (zup I 110 0 0)) :
    zW G F 0 0 I [(0, .ref (F.1 110)), (1, .int (zI slot))] [] 0 := by
  refine z_aload_n 0 hG dX4_slotKind_0 rfl rfl ?_
  refine z_iconst 0 hG dX4_slotKind_1 ?_
  refine z_putI hG zcl4 (zltM hL (by decide)) (zl110 hL) 0 (by decide) (ki := 0) rfl rfl kw677 rfl rfl dX4_slotKind_2 ?_
  refine z_aload_n 0 hG dX4_slotKind_5 rfl rfl ?_
  refine z_iload_n 1 hG dX4_slotKind_6 rfl rfl ?_
  refine z_callV [.int (zI slot)] hG hR (c_X4_isSlot hL (zRg_up hr (by decide)) (by first | assumption | omega | ((try simp only [zup_k, zup_i, zup_at, ne_eq, not_false_eq_true, Nat.reduceEqDiff]); simp only [zup_at]; omega))) hd_X4_isSlot kw902 kw904 kp37 rfl (zltM hL (by decide)) (zl110 hL) (by decide) (by decide) (by decide) (by decide) rfl rfl (Nat.le_of_ble_eq_true rfl) dX4_slotKind_7 (fun r I' hp => ?_)
  rw [hp.1, hp.2]
  show zW G F 0 0 (zup I 110 0 0) [(0, .ref (F.1 110)), (1, .int (zI slot))] [.int (zI (if 0 ≤ slot ∧ slot < I 118 0 then 1 else 0))] 10
  refine z_if_eq (tgt := 22) hG dX4_slotKind_10 (by decide) (by omega) (fun c10 => ?_) (fun c10 => ?_)
  · skip
    have c10b := zif_n c10
    refine z_aload_n 0 hG dX4_slotKind_22 rfl rfl ?_
    refine z_iconst 1 hG dX4_slotKind_23 ?_
    refine z_callV [.int (zI 1)] hG hR (c_X4_fail hL (zRg_up hr (by decide)) (by first | assumption | omega | ((try simp only [zup_k, zup_i, zup_at, ne_eq, not_false_eq_true, Nat.reduceEqDiff]); simp only [zup_at]; omega))) hd_X4_fail kw772 kw774 kp23 rfl (zltM hL (by decide)) (zl110 hL) (by decide) (by decide) (by decide) (by decide) rfl rfl (Nat.le_of_ble_eq_true rfl) dX4_slotKind_24 (fun r I' hp => ?_)
    rw [hp.1, hp.2]
    show zW G F 0 0 (zup (zup I 110 0 0) 110 0 1) [(0, .ref (F.1 110)), (1, .int (zI slot))] [.int (zI 0)] 27
    exact hE _ _ _ _ dX4_slotKind_27 (k1 c10b)
  · skip
    have c10b := zif_y c10
    refine z_aload_n 0 hG dX4_slotKind_13 rfl rfl ?_
    refine z_getR (t := 120) hG zcl4 (zltM hL (by decide)) (zl110 hL) 15 (by decide) rfl kw692 dX4_slotKind_14 ?_
    refine z_iload_n 1 hG dX4_slotKind_17 rfl rfl ?_
    refine z_iald (v := I 120 slot) hG (zltM hL (by decide)) (zl120 hL) (by decide) (by omega) (zup_k (by decide)) dX4_slotKind_18 ?_
    refine z_goto (tgt := 27) hG dX4_slotKind_19 (by decide) ?_
    exact hE _ _ _ _ dX4_slotKind_27 (k2 c10b)

theorem c_X4_slotKind {F : zFr} {I : zStore}  {slot : Int}  (hL : zLayM F) (hr : zRg I) (hs : -2147483648 ≤ slot ∧ slot < 2147483648) (hf : 0 ≤ I 118 0 ∧ I 118 0 ≤ 40) : ∀ (l : Launch) (D : va_G) (cs : Nat → ClassId), l.stackTraces = false → zMt l yX4_slotKind cX4_slotKind 2 (some .int) rm_X4_slotKind D cs F I [.ref (F.1 110), .int (zI slot)] (fun r I' => r = some (.int (zI (if 0 ≤ slot ∧ slot < I 118 0 then I 120 slot else 0))) ∧ I' = zup I 110 0 (if 0 ≤ slot ∧ slot < I 118 0 then 0 else 1)) :=
  fun l D cs hst => zMt.ofI hst (by decide +kernel) (Nat.le_of_ble_eq_true rfl) fun G hG hR hE => s_X4_slotKind hG hR hE hL hr hs hf
    (by intros; refine ⟨?_, ?_⟩ <;> (repeat' split) <;> first | rfl | (exfalso; omega) | exact zup_up _ _ _ _ _ | (simp only [zup_self]; done))
    (by intros; refine ⟨?_, ?_⟩ <;> (repeat' split) <;> first | rfl | (exfalso; omega) | exact zup_up _ _ _ _ _ | (simp only [zup_self]; done))
abbrev rm_X4_textByte : Room := { frames := 1, cells := 0, slots := 0, locals := 21 }
set_option maxRecDepth 100000 in
set_option maxHeartbeats 4000000 in
theorem s_X4_textByte {G : zCx} {F : zFr} {I : zStore} {post : Option Value → zStore → Prop}{slot : Int} {ix : Int} (hG : zOK G "LineLearnerModel" cX4_textByte 4) (hR : zRoom G rm_X4_textByte) (hE : zRetI G F cX4_textByte 0 0 post) (hL : zLayM F) (hr : zRg I) (hs : -2147483648 ≤ slot ∧ slot < 2147483648) (hi : -2147483648 ≤ ix ∧ ix < 2147483648) (hf : 0 ≤ I 118 0 ∧ I 118 0 ≤ 40) (h5 : ∀ _u : Unit, 0 ≤ slot → slot < I 118 0 → I 121 slot ≠ (-1) → (0 ≤ I 121 slot ∧ I 121 slot < 360) ∧ 0 ≤ I 116 (I 121 slot) ∧ 0 ≤ I 117 (I 121 slot) ∧ I 116 (I 121 slot) + I 117 (I 121 slot) ≤ 30)
    (k1 : (0 ≤ slot ∧ slot < I 118 0) → ((I 121 slot) ≠ (-1)) → (ix < 0) → post (some (.int (zI 0))) (zup (zup I 110 0 0) 110 0 1))
    (k2 : (0 ≤ slot ∧ slot < I 118 0) → ((I 121 slot) ≠ (-1)) → (0 ≤ ix) → ((I 117 (I 121 slot)) ≤ ix) → post (some (.int (zI 0))) (zup (zup I 110 0 0) 110 0 1))
    (k3 : (0 ≤ slot ∧ slot < I 118 0) → ((I 121 slot) ≠ (-1)) → (0 ≤ ix) → (ix < (I 117 (I 121 slot))) → post (some (.int (zI (I 113 (((((I 121 slot) / 30) * 30) + (I 116 (I 121 slot))) + ix))))) (zup I 110 0 0))
    (k4 : (0 ≤ slot ∧ slot < I 118 0) → ((I 121 slot) = (-1)) → post (some (.int (zI (-1)))) (zup I 110 0 0))
    (k5 : (¬ (0 ≤ slot ∧ slot < I 118 0)) → post (some (.int (zI 0))) (zup (zup I 110 0 0) 110 0 1)) :
    zW G F 0 0 I [(0, .ref (F.1 110)), (1, .int (zI slot)), (2, .int (zI ix))] [] 0 := by
  refine z_aload_n 0 hG dX4_textByte_0 rfl rfl ?_
  refine z_iconst 0 hG dX4_textByte_1 ?_
  refine z_putI hG zcl4 (zltM hL (by decide)) (zl110 hL) 0 (by decide) (ki := 0) rfl rfl kw677 rfl rfl dX4_textByte_2 ?_
  refine z_aload_n 0 hG dX4_textByte_5 rfl rfl ?_
  refine z_iload_n 1 hG dX4_textByte_6 rfl rfl ?_
  refine z_callV [.int (zI slot)] hG hR (c_X4_isSlot hL (zRg_up hr (by decide)) (by first | assumption | omega | ((try simp only [zup_k, zup_i, zup_at, ne_eq, not_false_eq_true, Nat.reduceEqDiff]); simp only [zup_at]; omega))) hd_X4_isSlot kw902 kw904 kp37 rfl (zltM hL (by decide)) (zl110 hL) (by decide) (by decide) (by decide) (by decide) rfl rfl (Nat.le_of_ble_eq_true rfl) dX4_textByte_7 (fun r I' hp => ?_)
  rw [hp.1, hp.2]
  show zW G F 0 0 (zup I 110 0 0) [(0, .ref (F.1 110)), (1, .int (zI slot)), (2, .int (zI ix))] [.int (zI (if 0 ≤ slot ∧ slot < I 118 0 then 1 else 0))] 10
  refine z_if_ne (tgt := 19) hG dX4_textByte_10 (by decide) (by omega) (fun c10 => ?_) (fun c10 => ?_)
  · skip
    have c10b := zif_y c10
    refine z_aload_n 0 hG dX4_textByte_19 rfl rfl ?_
    refine z_getR (t := 121) hG zcl4 (zltM hL (by decide)) (zl110 hL) 16 (by decide) rfl kw693 dX4_textByte_20 ?_
    refine z_iload_n 1 hG dX4_textByte_23 rfl rfl ?_
    refine z_iald (v := I 121 slot) hG (zltM hL (by decide)) (zl121 hL) (by decide) (by omega) (zup_k (by decide)) dX4_textByte_24 ?_
    refine z_istore_n (lv' := [(3, .int (zI (I 121 slot))), (0, .ref (F.1 110)), (1, .int (zI slot)), (2, .int (zI ix))]) hG dX4_textByte_25 rfl (by decide) rfl ?_
    refine z_iload_n 0 hG dX4_textByte_26 rfl rfl ?_
    refine z_iconst (-1) hG dX4_textByte_27 ?_
    refine z_icmp_ne (tgt := 33) hG dX4_textByte_28 (by decide) (hr _ _) (by decide) (fun c28 => ?_) (fun c28 => ?_)
    · skip
      have q5 := h5 () (by omega) (by omega) c28
      refine z_iload_n 3 hG dX4_textByte_33 rfl rfl ?_
      refine z_if_lt (tgt := 71) hG dX4_textByte_34 (by decide) (by omega) (fun c34 => ?_) (fun c34 => ?_)
      · skip
        refine z_aload_n 1 hG dX4_textByte_71 rfl rfl ?_
        refine z_iconst 1 hG dX4_textByte_72 ?_
        refine z_callV [.int (zI 1)] hG hR (c_X4_fail hL (zRg_up hr (by decide)) (by first | assumption | omega | ((try simp only [zup_k, zup_i, zup_at, ne_eq, not_false_eq_true, Nat.reduceEqDiff]); simp only [zup_at]; omega))) hd_X4_fail kw772 kw774 kp23 rfl (zltM hL (by decide)) (zl110 hL) (by decide) (by decide) (by decide) (by decide) rfl rfl (Nat.le_of_ble_eq_true rfl) dX4_textByte_73 (fun r I' hp => ?_)
        rw [hp.1, hp.2]
        show zW G F 0 0 (zup (zup I 110 0 0) 110 0 1) [(3, .int (zI (I 121 slot))), (0, .ref (F.1 110)), (1, .int (zI slot)), (2, .int (zI ix))] [.int (zI 0)] 76
        exact hE _ _ _ _ dX4_textByte_76 (k1 c10b c28 c34)
      · skip
        refine z_iload_n 3 hG dX4_textByte_37 rfl rfl ?_
        refine z_aload_n 1 hG dX4_textByte_38 rfl rfl ?_
        refine z_getR (t := 117) hG zcl4 (zltM hL (by decide)) (zl110 hL) 9 (by decide) rfl kw686 dX4_textByte_39 ?_
        refine z_iload_n 0 hG dX4_textByte_42 rfl rfl ?_
        refine z_iald (v := I 117 (I 121 slot)) hG (zltM hL (by decide)) (zl117 hL) (by decide) (by omega) (zup_k (by decide)) dX4_textByte_43 ?_
        refine z_icmp_ge (tgt := 71) hG dX4_textByte_44 (by decide) (by omega) (hr _ _) (fun c44 => ?_) (fun c44 => ?_)
        · skip
          refine z_aload_n 1 hG dX4_textByte_71 rfl rfl ?_
          refine z_iconst 1 hG dX4_textByte_72 ?_
          refine z_callV [.int (zI 1)] hG hR (c_X4_fail hL (zRg_up hr (by decide)) (by first | assumption | omega | ((try simp only [zup_k, zup_i, zup_at, ne_eq, not_false_eq_true, Nat.reduceEqDiff]); simp only [zup_at]; omega))) hd_X4_fail kw772 kw774 kp23 rfl (zltM hL (by decide)) (zl110 hL) (by decide) (by decide) (by decide) (by decide) rfl rfl (Nat.le_of_ble_eq_true rfl) dX4_textByte_73 (fun r I' hp => ?_)
          rw [hp.1, hp.2]
          show zW G F 0 0 (zup (zup I 110 0 0) 110 0 1) [(3, .int (zI (I 121 slot))), (0, .ref (F.1 110)), (1, .int (zI slot)), (2, .int (zI ix))] [.int (zI 0)] 76
          exact hE _ _ _ _ dX4_textByte_76 (k2 c10b c28 c34 c44)
        · skip
          refine z_aload_n 1 hG dX4_textByte_47 rfl rfl ?_
          refine z_getR (t := 113) hG zcl4 (zltM hL (by decide)) (zl110 hL) 5 (by decide) rfl kw682 dX4_textByte_48 ?_
          refine z_iload_n 0 hG dX4_textByte_51 rfl rfl ?_
          refine z_bipush 30 hG dX4_textByte_52 (by decide) ?_
          refine z_idiv hG (by omega) (by omega) dX4_textByte_54 ?_
          refine z_bipush 30 hG dX4_textByte_55 (by decide) ?_
          refine z_imul hG dX4_textByte_57 ?_
          refine z_aload_n 1 hG dX4_textByte_58 rfl rfl ?_
          refine z_getR (t := 116) hG zcl4 (zltM hL (by decide)) (zl110 hL) 8 (by decide) rfl kw685 dX4_textByte_59 ?_
          refine z_iload_n 0 hG dX4_textByte_62 rfl rfl ?_
          refine z_iald (v := I 116 (I 121 slot)) hG (zltM hL (by decide)) (zl116 hL) (by decide) (by omega) (zup_k (by decide)) dX4_textByte_63 ?_
          refine z_iadd hG dX4_textByte_64 ?_
          refine z_iload_n 3 hG dX4_textByte_65 rfl rfl ?_
          refine z_iadd hG dX4_textByte_66 ?_
          refine z_iald (v := I 113 (((((I 121 slot) / 30) * 30) + (I 116 (I 121 slot))) + ix)) hG (zltM hL (by decide)) (zl113 hL) (by decide) (by omega) (zup_k (by decide)) dX4_textByte_67 ?_
          refine z_goto (tgt := 76) hG dX4_textByte_68 (by decide) ?_
          exact hE _ _ _ _ dX4_textByte_76 (k3 c10b c28 c34 c44)
    · skip
      refine z_iconst (-1) hG dX4_textByte_31 ?_
      exact hE _ _ _ _ dX4_textByte_32 (k4 c10b c28)
  · skip
    have c10b := zif_n c10
    refine z_aload_n 0 hG dX4_textByte_13 rfl rfl ?_
    refine z_iconst 1 hG dX4_textByte_14 ?_
    refine z_callV [.int (zI 1)] hG hR (c_X4_fail hL (zRg_up hr (by decide)) (by first | assumption | omega | ((try simp only [zup_k, zup_i, zup_at, ne_eq, not_false_eq_true, Nat.reduceEqDiff]); simp only [zup_at]; omega))) hd_X4_fail kw772 kw774 kp23 rfl (zltM hL (by decide)) (zl110 hL) (by decide) (by decide) (by decide) (by decide) rfl rfl (Nat.le_of_ble_eq_true rfl) dX4_textByte_15 (fun r I' hp => ?_)
    rw [hp.1, hp.2]
    show zW G F 0 0 (zup (zup I 110 0 0) 110 0 1) [(0, .ref (F.1 110)), (1, .int (zI slot)), (2, .int (zI ix))] [.int (zI 0)] 18
    exact hE _ _ _ _ dX4_textByte_18 (k5 c10b)

theorem c_X4_textByte {F : zFr} {I : zStore}  {slot : Int} {ix : Int}  (hL : zLayM F) (hr : zRg I) (hs : -2147483648 ≤ slot ∧ slot < 2147483648) (hi : -2147483648 ≤ ix ∧ ix < 2147483648) (hf : 0 ≤ I 118 0 ∧ I 118 0 ≤ 40) (h5 : ∀ _u : Unit, 0 ≤ slot → slot < I 118 0 → I 121 slot ≠ (-1) → (0 ≤ I 121 slot ∧ I 121 slot < 360) ∧ 0 ≤ I 116 (I 121 slot) ∧ 0 ≤ I 117 (I 121 slot) ∧ I 116 (I 121 slot) + I 117 (I 121 slot) ≤ 30) : ∀ (l : Launch) (D : va_G) (cs : Nat → ClassId), l.stackTraces = false → zMt l yX4_textByte cX4_textByte 4 (some .int) rm_X4_textByte D cs F I [.ref (F.1 110), .int (zI slot), .int (zI ix)] (fun r I' => r = some (.int (zI (if (0 ≤ slot ∧ slot < I 118 0) ∧ (I 121 slot = (-1) ∨ 0 ≤ ix ∧ ix < I 117 (I 121 slot)) then (if I 121 slot = (-1) then (-1) else I 113 (((((I 121 slot) / 30) * 30) + (I 116 (I 121 slot))) + ix)) else 0))) ∧ I' = zup I 110 0 (if (0 ≤ slot ∧ slot < I 118 0) ∧ (I 121 slot = (-1) ∨ 0 ≤ ix ∧ ix < I 117 (I 121 slot)) then 0 else 1)) :=
  fun l D cs hst => zMt.ofI hst (by decide +kernel) (Nat.le_of_ble_eq_true rfl) fun G hG hR hE => s_X4_textByte hG hR hE hL hr hs hi hf h5
    (by intros; refine ⟨?_, ?_⟩ <;> (repeat' split) <;> first | rfl | (exfalso; omega) | exact zup_up _ _ _ _ _ | (simp only [zup_self]; done))
    (by intros; refine ⟨?_, ?_⟩ <;> (repeat' split) <;> first | rfl | (exfalso; omega) | exact zup_up _ _ _ _ _ | (simp only [zup_self]; done))
    (by intros; refine ⟨?_, ?_⟩ <;> (repeat' split) <;> first | rfl | (exfalso; omega) | exact zup_up _ _ _ _ _ | (simp only [zup_self]; done))
    (by intros; refine ⟨?_, ?_⟩ <;> (repeat' split) <;> first | rfl | (exfalso; omega) | exact zup_up _ _ _ _ _ | (simp only [zup_self]; done))
    (by intros; refine ⟨?_, ?_⟩ <;> (repeat' split) <;> first | rfl | (exfalso; omega) | exact zup_up _ _ _ _ _ | (simp only [zup_self]; done))
abbrev rm_X4_uses : Room := { frames := 3, cells := 0, slots := 0, locals := 68 }
set_option maxRecDepth 100000 in
set_option maxHeartbeats 4000000 in
theorem s_X4_uses {G : zCx} {F : zFr} {I : zStore} {post : Option Value → zStore → Prop}{slot : Int} (hG : zOK G "LineLearnerModel" cX4_uses 2) (hR : zRoom G rm_X4_uses) (hE : zRetI G F cX4_uses 0 0 post) (hL : zLayM F) (hr : zRg I) (hs : -2147483648 ≤ slot ∧ slot < 2147483648) (hf : 0 ≤ I 118 0 ∧ I 118 0 ≤ 40) (hn : 0 ≤ I 110 3 ∧ I 110 3 ≤ 12)
    (k1 : (¬ (0 ≤ slot ∧ slot < I 118 0)) → post (some (.int (zI 0))) (zup (zup I 110 0 0) 110 0 1))
    (k2 : (0 ≤ slot ∧ slot < I 118 0) → post (some (.int (zI (zmu (I 122) 0 slot (I 110 3).toNat)))) (zup I 110 0 0)) :
    zW G F 0 0 I [(0, .ref (F.1 110)), (1, .int (zI slot))] [] 0 := by
  refine z_aload_n 0 hG dX4_uses_0 rfl rfl ?_
  refine z_iconst 0 hG dX4_uses_1 ?_
  refine z_putI hG zcl4 (zltM hL (by decide)) (zl110 hL) 0 (by decide) (ki := 0) rfl rfl kw677 rfl rfl dX4_uses_2 ?_
  refine z_aload_n 0 hG dX4_uses_5 rfl rfl ?_
  refine z_iload_n 1 hG dX4_uses_6 rfl rfl ?_
  refine z_callV [.int (zI slot)] hG hR (c_X4_isSlot hL (zRg_up hr (by decide)) (by first | assumption | omega | ((try simp only [zup_k, zup_i, zup_at, ne_eq, not_false_eq_true, Nat.reduceEqDiff]); simp only [zup_at]; omega))) hd_X4_isSlot kw902 kw904 kp37 rfl (zltM hL (by decide)) (zl110 hL) (by decide) (by decide) (by decide) (by decide) rfl rfl (Nat.le_of_ble_eq_true rfl) dX4_uses_7 (fun r I' hp => ?_)
  rw [hp.1, hp.2]
  show zW G F 0 0 (zup I 110 0 0) [(0, .ref (F.1 110)), (1, .int (zI slot))] [.int (zI (if 0 ≤ slot ∧ slot < I 118 0 then 1 else 0))] 10
  refine z_if_eq (tgt := 22) hG dX4_uses_10 (by decide) (by omega) (fun c10 => ?_) (fun c10 => ?_)
  · skip
    have c10b := zif_n c10
    refine z_aload_n 0 hG dX4_uses_22 rfl rfl ?_
    refine z_iconst 1 hG dX4_uses_23 ?_
    refine z_callV [.int (zI 1)] hG hR (c_X4_fail hL (zRg_up hr (by decide)) (by first | assumption | omega | ((try simp only [zup_k, zup_i, zup_at, ne_eq, not_false_eq_true, Nat.reduceEqDiff]); simp only [zup_at]; omega))) hd_X4_fail kw772 kw774 kp23 rfl (zltM hL (by decide)) (zl110 hL) (by decide) (by decide) (by decide) (by decide) rfl rfl (Nat.le_of_ble_eq_true rfl) dX4_uses_24 (fun r I' hp => ?_)
    rw [hp.1, hp.2]
    show zW G F 0 0 (zup (zup I 110 0 0) 110 0 1) [(0, .ref (F.1 110)), (1, .int (zI slot))] [.int (zI 0)] 27
    exact hE _ _ _ _ dX4_uses_27 (k1 c10b)
  · skip
    have c10b := zif_y c10
    refine z_aload_n 0 hG dX4_uses_13 rfl rfl ?_
    refine z_iconst 0 hG dX4_uses_14 ?_
    refine z_iload_n 1 hG dX4_uses_15 rfl rfl ?_
    refine z_callV [.int (zI 0), .int (zI slot)] hG hR (c_X4_usesOf hL (zRg_up hr (by decide)) (by first | assumption | omega | ((try simp only [zup_k, zup_i, zup_at, ne_eq, not_false_eq_true, Nat.reduceEqDiff]); simp only [zup_at]; omega)) (by first | assumption | omega | ((try simp only [zup_k, zup_i, zup_at, ne_eq, not_false_eq_true, Nat.reduceEqDiff]); simp only [zup_at]; omega)) (by first | assumption | omega | ((try simp only [zup_k, zup_i, zup_at, ne_eq, not_false_eq_true, Nat.reduceEqDiff]); simp only [zup_at]; omega))) hd_X4_usesOf kw840 kw842 kp30 rfl (zltM hL (by decide)) (zl110 hL) (by decide) (by decide) (by decide) (by decide) rfl rfl (Nat.le_of_ble_eq_true rfl) dX4_uses_16 (fun r I' hp => ?_)
    rw [hp.1, hp.2]
    have ha16_0 : 0 ≤ (zmu (I 122) 0 slot (I 110 3).toNat) ∧ (zmu (I 122) 0 slot (I 110 3).toNat) ≤ (I 110 3).toNat := zmu_bd _ _ _ _
    show zW G F 0 0 (zup I 110 0 0) [(0, .ref (F.1 110)), (1, .int (zI slot))] [.int (zI (zmu (I 122) 0 slot (I 110 3).toNat))] 19
    refine z_goto (tgt := 27) hG dX4_uses_19 (by decide) ?_
    exact hE _ _ _ _ dX4_uses_27 (k2 c10b)

theorem c_X4_uses {F : zFr} {I : zStore}  {slot : Int}  (hL : zLayM F) (hr : zRg I) (hs : -2147483648 ≤ slot ∧ slot < 2147483648) (hf : 0 ≤ I 118 0 ∧ I 118 0 ≤ 40) (hn : 0 ≤ I 110 3 ∧ I 110 3 ≤ 12) : ∀ (l : Launch) (D : va_G) (cs : Nat → ClassId), l.stackTraces = false → zMt l yX4_uses cX4_uses 2 (some .int) rm_X4_uses D cs F I [.ref (F.1 110), .int (zI slot)] (fun r I' => r = some (.int (zI (if 0 ≤ slot ∧ slot < I 118 0 then zmu (I 122) 0 slot (I 110 3).toNat else 0))) ∧ I' = zup I 110 0 (if 0 ≤ slot ∧ slot < I 118 0 then 0 else 1)) :=
  fun l D cs hst => zMt.ofI hst (by decide +kernel) (Nat.le_of_ble_eq_true rfl) fun G hG hR hE => s_X4_uses hG hR hE hL hr hs hf hn
    (by intros; refine ⟨?_, ?_⟩ <;> (repeat' split) <;> first | rfl | (exfalso; omega) | exact zup_up _ _ _ _ _ | (simp only [zup_self]; done))
    (by intros; refine ⟨?_, ?_⟩ <;> (repeat' split) <;> first | rfl | (exfalso; omega) | exact zup_up _ _ _ _ _ | (simp only [zup_self]; done))
abbrev rm_X4_isOptional : Room := { frames := 4, cells := 0, slots := 0, locals := 90 }
set_option maxRecDepth 100000 in
set_option maxHeartbeats 4000000 in
theorem s_X4_isOptional {G : zCx} {F : zFr} {I : zStore} {post : Option Value → zStore → Prop}{slot : Int} (hG : zOK G "LineLearnerModel" cX4_isOptional 2) (hR : zRoom G rm_X4_isOptional) (hE : zRetZ G F cX4_isOptional 0 0 post) (hL : zLayM F) (hr : zRg I) (hs : -2147483648 ≤ slot ∧ slot < 2147483648) (hf : 0 ≤ I 118 0 ∧ I 118 0 ≤ 40) (hn : 0 ≤ I 110 3 ∧ I 110 3 ≤ 12) (hk : 0 ≤ I 119 0 ∧ I 119 0 < 4096)
    (k1 : (¬ (0 ≤ slot ∧ slot < I 118 0)) → ((1 : Int) ≠ 0) → post (some (.int (zI 0))) (zup I 110 0 1))
    (k2 : (0 ≤ slot ∧ slot < I 118 0) → ((0 : Int) = 0) → (¬ (zmu (I 122) 0 slot (I 110 3).toNat < zbc (I 119 0))) → post (some (.int (zI 0))) (zup I 110 0 0))
    (k3 : (0 ≤ slot ∧ slot < I 118 0) → ((0 : Int) = 0) → (zmu (I 122) 0 slot (I 110 3).toNat < zbc (I 119 0)) → post (some (.int (zI 1))) (zup I 110 0 0)) :
    zW G F 0 0 I [(0, .ref (F.1 110)), (1, .int (zI slot))] [] 0 := by
  refine z_aload_n 0 hG dX4_isOptional_0 rfl rfl ?_
  refine z_aload_n 0 hG dX4_isOptional_1 rfl rfl ?_
  refine z_iload_n 1 hG dX4_isOptional_2 rfl rfl ?_
  refine z_callV [.int (zI slot)] hG hR (c_X4_isSlot hL hr (by first | assumption | omega | ((try simp only [zup_k, zup_i, zup_at, ne_eq, not_false_eq_true, Nat.reduceEqDiff]); simp only [zup_at]; omega))) hd_X4_isSlot kw902 kw904 kp37 rfl (zltM hL (by decide)) (zl110 hL) (by decide) (by decide) (by decide) (by decide) rfl rfl (Nat.le_of_ble_eq_true rfl) dX4_isOptional_3 (fun r I' hp => ?_)
  rw [hp.1, hp.2]
  show zW G F 0 0 I [(0, .ref (F.1 110)), (1, .int (zI slot))] [.int (zI (if 0 ≤ slot ∧ slot < I 118 0 then 1 else 0)), .ref (F.1 110)] 6
  refine z_if_eq (tgt := 13) hG dX4_isOptional_6 (by decide) (by omega) (fun c6 => ?_) (fun c6 => ?_)
  · skip
    have c6b := zif_n c6
    refine z_iconst 1 hG dX4_isOptional_13 ?_
    refine z_putI hG zcl4 (zltM hL (by decide)) (zl110 hL) 0 (by decide) (ki := 0) rfl rfl kw677 rfl rfl dX4_isOptional_14 ?_
    refine z_aload_n 0 hG dX4_isOptional_17 rfl rfl ?_
    refine z_getI (v := 1) hG zcl4 (zltM hL (by decide)) (zl110 hL) 0 (by decide) rfl rfl (zup_at _ _ _ _) kw677 dX4_isOptional_18 ?_
    refine z_if_ne (tgt := 37) hG dX4_isOptional_21 (by decide) (by decide) (fun c21 => ?_) (fun c21 => ?_)
    · skip
      refine z_iconst 0 hG dX4_isOptional_37 ?_
      exact hE _ _ _ _ dX4_isOptional_38 (by first | decide | omega) (k1 c6b c21)
    · skip
      exact absurd c21 (by decide)
  · skip
    have c6b := zif_y c6
    refine z_iconst 0 hG dX4_isOptional_9 ?_
    refine z_goto (tgt := 14) hG dX4_isOptional_10 (by decide) ?_
    refine z_putI hG zcl4 (zltM hL (by decide)) (zl110 hL) 0 (by decide) (ki := 0) rfl rfl kw677 rfl rfl dX4_isOptional_14 ?_
    refine z_aload_n 0 hG dX4_isOptional_17 rfl rfl ?_
    refine z_getI (v := 0) hG zcl4 (zltM hL (by decide)) (zl110 hL) 0 (by decide) rfl rfl (zup_at _ _ _ _) kw677 dX4_isOptional_18 ?_
    refine z_if_ne (tgt := 37) hG dX4_isOptional_21 (by decide) (by decide) (fun c21 => ?_) (fun c21 => ?_)
    · skip
      exact absurd c21 (by decide)
    · skip
      refine z_aload_n 0 hG dX4_isOptional_24 rfl rfl ?_
      refine z_iconst 0 hG dX4_isOptional_25 ?_
      refine z_iload_n 1 hG dX4_isOptional_26 rfl rfl ?_
      refine z_callV [.int (zI 0), .int (zI slot)] hG hR (c_X4_isFree hL (zRg_up hr (by decide)) (by first | assumption | omega | ((try simp only [zup_k, zup_i, zup_at, ne_eq, not_false_eq_true, Nat.reduceEqDiff]); simp only [zup_at]; omega)) (by first | assumption | omega | ((try simp only [zup_k, zup_i, zup_at, ne_eq, not_false_eq_true, Nat.reduceEqDiff]); simp only [zup_at]; omega)) (by first | assumption | omega | ((try simp only [zup_k, zup_i, zup_at, ne_eq, not_false_eq_true, Nat.reduceEqDiff]); simp only [zup_at]; omega)) (by first | assumption | omega | ((try simp only [zup_k, zup_i, zup_at, ne_eq, not_false_eq_true, Nat.reduceEqDiff]); simp only [zup_at]; omega))) hd_X4_isFree kw836 kw838 kp29 rfl (zltM hL (by decide)) (zl110 hL) (by decide) (by decide) (by decide) (by decide) rfl rfl (Nat.le_of_ble_eq_true rfl) dX4_isOptional_27 (fun r I' hp => ?_)
      rw [hp.1, hp.2]
      show zW G F 0 0 (zup I 110 0 0) [(0, .ref (F.1 110)), (1, .int (zI slot))] [.int (zI (if zmu (I 122) 0 slot (I 110 3).toNat < zbc (I 119 0) then 1 else 0))] 30
      refine z_if_eq (tgt := 37) hG dX4_isOptional_30 (by decide) (by omega) (fun c30 => ?_) (fun c30 => ?_)
      · skip
        have c30b := zif_n c30
        refine z_iconst 0 hG dX4_isOptional_37 ?_
        exact hE _ _ _ _ dX4_isOptional_38 (by first | decide | omega) (k2 c6b c21 c30b)
      · skip
        have c30b := zif_y c30
        refine z_iconst 1 hG dX4_isOptional_33 ?_
        refine z_goto (tgt := 38) hG dX4_isOptional_34 (by decide) ?_
        exact hE _ _ _ _ dX4_isOptional_38 (by first | decide | omega) (k3 c6b c21 c30b)

theorem c_X4_isOptional {F : zFr} {I : zStore}  {slot : Int}  (hL : zLayM F) (hr : zRg I) (hs : -2147483648 ≤ slot ∧ slot < 2147483648) (hf : 0 ≤ I 118 0 ∧ I 118 0 ≤ 40) (hn : 0 ≤ I 110 3 ∧ I 110 3 ≤ 12) (hk : 0 ≤ I 119 0 ∧ I 119 0 < 4096) : ∀ (l : Launch) (D : va_G) (cs : Nat → ClassId), l.stackTraces = false → zMt l yX4_isOptional cX4_isOptional 2 (some .boolean) rm_X4_isOptional D cs F I [.ref (F.1 110), .int (zI slot)] (fun r I' => r = some (.int (zI (if (0 ≤ slot ∧ slot < I 118 0) ∧ zmu (I 122) 0 slot (I 110 3).toNat < zbc (I 119 0) then 1 else 0))) ∧ I' = zup I 110 0 (if 0 ≤ slot ∧ slot < I 118 0 then 0 else 1)) :=
  fun l D cs hst => zMt.ofZ hst (by decide +kernel) (Nat.le_of_ble_eq_true rfl) fun G hG hR hE => s_X4_isOptional hG hR hE hL hr hs hf hn hk
    (by intros; refine ⟨?_, ?_⟩ <;> (repeat' split) <;> first | rfl | (exfalso; omega) | exact zup_up _ _ _ _ _ | (simp only [zup_self]; done))
    (by intros; refine ⟨?_, ?_⟩ <;> (repeat' split) <;> first | rfl | (exfalso; omega) | exact zup_up _ _ _ _ _ | (simp only [zup_self]; done))
    (by intros; refine ⟨?_, ?_⟩ <;> (repeat' split) <;> first | rfl | (exfalso; omega) | exact zup_up _ _ _ _ _ | (simp only [zup_self]; done))
abbrev rm_X4_tokenAt : Room := { frames := 2, cells := 0, slots := 0, locals := 44 }
set_option maxRecDepth 100000 in
set_option maxHeartbeats 4000000 in
theorem s_X4_tokenAt {G : zCx} {F : zFr} {I : zStore} {post : Option Value → zStore → Prop}{line : Int} {slot : Int} (hG : zOK G "LineLearnerModel" cX4_tokenAt 3) (hR : zRoom G rm_X4_tokenAt) (hE : zRetI G F cX4_tokenAt 0 0 post) (hL : zLayM F) (hr : zRg I) (hl : -2147483648 ≤ line ∧ line < 2147483648) (hs : -2147483648 ≤ slot ∧ slot < 2147483648) (hf : 0 ≤ I 118 0 ∧ I 118 0 ≤ 40) (hn : 0 ≤ I 110 3 ∧ I 110 3 ≤ 12)
    (k1 : (¬ (0 ≤ line ∧ line < I 110 3)) → post (some (.int (zI 0))) (zup (zup I 110 0 0) 110 0 1))
    (k2 : (0 ≤ line ∧ line < I 110 3) → (¬ (0 ≤ slot ∧ slot < I 118 0)) → post (some (.int (zI 0))) (zup (zup I 110 0 0) 110 0 1))
    (k3 : (0 ≤ line ∧ line < I 110 3) → (0 ≤ slot ∧ slot < I 118 0) → post (some (.int (zI (I 122 (12 * (40 * 0 + slot) + line))))) (zup I 110 0 0)) :
    zW G F 0 0 I [(0, .ref (F.1 110)), (1, .int (zI line)), (2, .int (zI slot))] [] 0 := by
  refine z_aload_n 0 hG dX4_tokenAt_0 rfl rfl ?_
  refine z_iconst 0 hG dX4_tokenAt_1 ?_
  refine z_putI hG zcl4 (zltM hL (by decide)) (zl110 hL) 0 (by decide) (ki := 0) rfl rfl kw677 rfl rfl dX4_tokenAt_2 ?_
  refine z_aload_n 0 hG dX4_tokenAt_5 rfl rfl ?_
  refine z_iload_n 1 hG dX4_tokenAt_6 rfl rfl ?_
  refine z_callV [.int (zI line)] hG hR (c_X4_isLine hL (zRg_up hr (by decide)) (by first | assumption | omega | ((try simp only [zup_k, zup_i, zup_at, ne_eq, not_false_eq_true, Nat.reduceEqDiff]); simp only [zup_at]; omega))) hd_X4_isLine kw787 kw789 kp24 rfl (zltM hL (by decide)) (zl110 hL) (by decide) (by decide) (by decide) (by decide) rfl rfl (Nat.le_of_ble_eq_true rfl) dX4_tokenAt_7 (fun r I' hp => ?_)
  rw [hp.1, hp.2]
  show zW G F 0 0 (zup I 110 0 0) [(0, .ref (F.1 110)), (1, .int (zI line)), (2, .int (zI slot))] [.int (zI (if 0 ≤ line ∧ line < I 110 3 then 1 else 0))] 10
  refine z_if_eq (tgt := 31) hG dX4_tokenAt_10 (by decide) (by omega) (fun c10 => ?_) (fun c10 => ?_)
  · skip
    have c10b := zif_n c10
    refine z_aload_n 0 hG dX4_tokenAt_31 rfl rfl ?_
    refine z_iconst 1 hG dX4_tokenAt_32 ?_
    refine z_callV [.int (zI 1)] hG hR (c_X4_fail hL (zRg_up hr (by decide)) (by first | assumption | omega | ((try simp only [zup_k, zup_i, zup_at, ne_eq, not_false_eq_true, Nat.reduceEqDiff]); simp only [zup_at]; omega))) hd_X4_fail kw772 kw774 kp23 rfl (zltM hL (by decide)) (zl110 hL) (by decide) (by decide) (by decide) (by decide) rfl rfl (Nat.le_of_ble_eq_true rfl) dX4_tokenAt_33 (fun r I' hp => ?_)
    rw [hp.1, hp.2]
    show zW G F 0 0 (zup (zup I 110 0 0) 110 0 1) [(0, .ref (F.1 110)), (1, .int (zI line)), (2, .int (zI slot))] [.int (zI 0)] 36
    exact hE _ _ _ _ dX4_tokenAt_36 (k1 c10b)
  · skip
    have c10b := zif_y c10
    refine z_aload_n 0 hG dX4_tokenAt_13 rfl rfl ?_
    refine z_iload_n 2 hG dX4_tokenAt_14 rfl rfl ?_
    refine z_callV [.int (zI slot)] hG hR (c_X4_isSlot hL (zRg_up hr (by decide)) (by first | assumption | omega | ((try simp only [zup_k, zup_i, zup_at, ne_eq, not_false_eq_true, Nat.reduceEqDiff]); simp only [zup_at]; omega))) hd_X4_isSlot kw902 kw904 kp37 rfl (zltM hL (by decide)) (zl110 hL) (by decide) (by decide) (by decide) (by decide) rfl rfl (Nat.le_of_ble_eq_true rfl) dX4_tokenAt_15 (fun r I' hp => ?_)
    rw [hp.1, hp.2]
    show zW G F 0 0 (zup I 110 0 0) [(0, .ref (F.1 110)), (1, .int (zI line)), (2, .int (zI slot))] [.int (zI (if 0 ≤ slot ∧ slot < I 118 0 then 1 else 0))] 18
    refine z_if_eq (tgt := 31) hG dX4_tokenAt_18 (by decide) (by omega) (fun c18 => ?_) (fun c18 => ?_)
    · skip
      have c18b := zif_n c18
      refine z_aload_n 0 hG dX4_tokenAt_31 rfl rfl ?_
      refine z_iconst 1 hG dX4_tokenAt_32 ?_
      refine z_callV [.int (zI 1)] hG hR (c_X4_fail hL (zRg_up hr (by decide)) (by first | assumption | omega | ((try simp only [zup_k, zup_i, zup_at, ne_eq, not_false_eq_true, Nat.reduceEqDiff]); simp only [zup_at]; omega))) hd_X4_fail kw772 kw774 kp23 rfl (zltM hL (by decide)) (zl110 hL) (by decide) (by decide) (by decide) (by decide) rfl rfl (Nat.le_of_ble_eq_true rfl) dX4_tokenAt_33 (fun r I' hp => ?_)
      rw [hp.1, hp.2]
      show zW G F 0 0 (zup (zup I 110 0 0) 110 0 1) [(0, .ref (F.1 110)), (1, .int (zI line)), (2, .int (zI slot))] [.int (zI 0)] 36
      exact hE _ _ _ _ dX4_tokenAt_36 (k2 c10b c18b)
    · skip
      have c18b := zif_y c18
      refine z_aload_n 0 hG dX4_tokenAt_21 rfl rfl ?_
      refine z_iconst 0 hG dX4_tokenAt_22 ?_
      refine z_iload_n 2 hG dX4_tokenAt_23 rfl rfl ?_
      refine z_iload_n 1 hG dX4_tokenAt_24 rfl rfl ?_
      refine z_callV [.int (zI 0), .int (zI slot), .int (zI line)] hG hR (c_X4_tokenOf hL (zRg_up hr (by decide)) (by first | assumption | omega | ((try simp only [zup_k, zup_i, zup_at, ne_eq, not_false_eq_true, Nat.reduceEqDiff]); simp only [zup_at]; omega)) (by first | assumption | omega | ((try simp only [zup_k, zup_i, zup_at, ne_eq, not_false_eq_true, Nat.reduceEqDiff]); simp only [zup_at]; omega)) (by first | assumption | omega | ((try simp only [zup_k, zup_i, zup_at, ne_eq, not_false_eq_true, Nat.reduceEqDiff]); simp only [zup_at]; omega))) hd_X4_tokenOf kw844 kw846 kp31 rfl (zltM hL (by decide)) (zl110 hL) (by decide) (by decide) (by decide) (by decide) rfl rfl (Nat.le_of_ble_eq_true rfl) dX4_tokenAt_25 (fun r I' hp => ?_)
      rw [hp.1, hp.2]
      show zW G F 0 0 (zup I 110 0 0) [(0, .ref (F.1 110)), (1, .int (zI line)), (2, .int (zI slot))] [.int (zI (I 122 (12 * (40 * 0 + slot) + line)))] 28
      refine z_goto (tgt := 36) hG dX4_tokenAt_28 (by decide) ?_
      exact hE _ _ _ _ dX4_tokenAt_36 (k3 c10b c18b)

theorem c_X4_tokenAt {F : zFr} {I : zStore}  {line : Int} {slot : Int}  (hL : zLayM F) (hr : zRg I) (hl : -2147483648 ≤ line ∧ line < 2147483648) (hs : -2147483648 ≤ slot ∧ slot < 2147483648) (hf : 0 ≤ I 118 0 ∧ I 118 0 ≤ 40) (hn : 0 ≤ I 110 3 ∧ I 110 3 ≤ 12) : ∀ (l : Launch) (D : va_G) (cs : Nat → ClassId), l.stackTraces = false → zMt l yX4_tokenAt cX4_tokenAt 3 (some .int) rm_X4_tokenAt D cs F I [.ref (F.1 110), .int (zI line), .int (zI slot)] (fun r I' => r = some (.int (zI (if (0 ≤ line ∧ line < I 110 3) ∧ (0 ≤ slot ∧ slot < I 118 0) then I 122 (12 * (40 * 0 + slot) + line) else 0))) ∧ I' = zup I 110 0 (if (0 ≤ line ∧ line < I 110 3) ∧ (0 ≤ slot ∧ slot < I 118 0) then 0 else 1)) :=
  fun l D cs hst => zMt.ofI hst (by decide +kernel) (Nat.le_of_ble_eq_true rfl) fun G hG hR hE => s_X4_tokenAt hG hR hE hL hr hl hs hf hn
    (by intros; refine ⟨?_, ?_⟩ <;> (repeat' split) <;> first | rfl | (exfalso; omega) | exact zup_up _ _ _ _ _ | (simp only [zup_self]; done))
    (by intros; refine ⟨?_, ?_⟩ <;> (repeat' split) <;> first | rfl | (exfalso; omega) | exact zup_up _ _ _ _ _ | (simp only [zup_self]; done))
    (by intros; refine ⟨?_, ?_⟩ <;> (repeat' split) <;> first | rfl | (exfalso; omega) | exact zup_up _ _ _ _ _ | (simp only [zup_self]; done))
abbrev rm_X4_groupOf : Room := { frames := 1, cells := 0, slots := 0, locals := 21 }
set_option maxRecDepth 100000 in
set_option maxHeartbeats 4000000 in
theorem s_X4_groupOf {G : zCx} {F : zFr} {I : zStore} {post : Option Value → zStore → Prop}{line : Int} (hG : zOK G "LineLearnerModel" cX4_groupOf 2) (hR : zRoom G rm_X4_groupOf) (hE : zRetI G F cX4_groupOf 0 0 post) (hL : zLayM F) (hr : zRg I) (hl : -2147483648 ≤ line ∧ line < 2147483648) (hn : 0 ≤ I 110 3 ∧ I 110 3 ≤ 12)
    (k1 : ((I 110 18) ≠ 0) → (¬ (0 ≤ line ∧ line < I 110 3)) → post (some (.int (zI 0))) (zup (zup I 110 0 0) 110 0 2))
    (k2 : ((I 110 18) ≠ 0) → (0 ≤ line ∧ line < I 110 3) → post (some (.int (zI (I 123 line)))) (zup I 110 0 0))
    (k3 : ((I 110 18) = 0) → post (some (.int (zI 0))) (zup (zup I 110 0 0) 110 0 1)) :
    zW G F 0 0 I [(0, .ref (F.1 110)), (1, .int (zI line))] [] 0 := by
  refine z_aload_n 0 hG dX4_groupOf_0 rfl rfl ?_
  refine z_iconst 0 hG dX4_groupOf_1 ?_
  refine z_putI hG zcl4 (zltM hL (by decide)) (zl110 hL) 0 (by decide) (ki := 0) rfl rfl kw677 rfl rfl dX4_groupOf_2 ?_
  refine z_aload_n 0 hG dX4_groupOf_5 rfl rfl ?_
  refine z_getI (v := I 110 18) hG zcl4 (zltM hL (by decide)) (zl110 hL) 18 (by decide) rfl rfl (zup_i (by decide)) kw695 dX4_groupOf_6 ?_
  refine z_if_ne (tgt := 18) hG dX4_groupOf_9 (by decide) (hr _ _) (fun c9 => ?_) (fun c9 => ?_)
  · skip
    refine z_aload_n 0 hG dX4_groupOf_18 rfl rfl ?_
    refine z_iload_n 1 hG dX4_groupOf_19 rfl rfl ?_
    refine z_callV [.int (zI line)] hG hR (c_X4_isLine hL (zRg_up hr (by decide)) (by first | assumption | omega | ((try simp only [zup_k, zup_i, zup_at, ne_eq, not_false_eq_true, Nat.reduceEqDiff]); simp only [zup_at]; omega))) hd_X4_isLine kw787 kw789 kp24 rfl (zltM hL (by decide)) (zl110 hL) (by decide) (by decide) (by decide) (by decide) rfl rfl (Nat.le_of_ble_eq_true rfl) dX4_groupOf_20 (fun r I' hp => ?_)
    rw [hp.1, hp.2]
    show zW G F 0 0 (zup I 110 0 0) [(0, .ref (F.1 110)), (1, .int (zI line))] [.int (zI (if 0 ≤ line ∧ line < I 110 3 then 1 else 0))] 23
    refine z_if_eq (tgt := 35) hG dX4_groupOf_23 (by decide) (by omega) (fun c23 => ?_) (fun c23 => ?_)
    · skip
      have c23b := zif_n c23
      refine z_aload_n 0 hG dX4_groupOf_35 rfl rfl ?_
      refine z_iconst 2 hG dX4_groupOf_36 ?_
      refine z_callV [.int (zI 2)] hG hR (c_X4_fail hL (zRg_up hr (by decide)) (by first | assumption | omega | ((try simp only [zup_k, zup_i, zup_at, ne_eq, not_false_eq_true, Nat.reduceEqDiff]); simp only [zup_at]; omega))) hd_X4_fail kw772 kw774 kp23 rfl (zltM hL (by decide)) (zl110 hL) (by decide) (by decide) (by decide) (by decide) rfl rfl (Nat.le_of_ble_eq_true rfl) dX4_groupOf_37 (fun r I' hp => ?_)
      rw [hp.1, hp.2]
      show zW G F 0 0 (zup (zup I 110 0 0) 110 0 2) [(0, .ref (F.1 110)), (1, .int (zI line))] [.int (zI 0)] 40
      exact hE _ _ _ _ dX4_groupOf_40 (k1 c9 c23b)
    · skip
      have c23b := zif_y c23
      refine z_aload_n 0 hG dX4_groupOf_26 rfl rfl ?_
      refine z_getR (t := 123) hG zcl4 (zltM hL (by decide)) (zl110 hL) 20 (by decide) rfl kw697 dX4_groupOf_27 ?_
      refine z_iload_n 1 hG dX4_groupOf_30 rfl rfl ?_
      refine z_iald (v := I 123 line) hG (zltM hL (by decide)) (zl123 hL) (by decide) (by omega) (zup_k (by decide)) dX4_groupOf_31 ?_
      refine z_goto (tgt := 40) hG dX4_groupOf_32 (by decide) ?_
      exact hE _ _ _ _ dX4_groupOf_40 (k2 c9 c23b)
  · skip
    refine z_aload_n 0 hG dX4_groupOf_12 rfl rfl ?_
    refine z_iconst 1 hG dX4_groupOf_13 ?_
    refine z_callV [.int (zI 1)] hG hR (c_X4_fail hL (zRg_up hr (by decide)) (by first | assumption | omega | ((try simp only [zup_k, zup_i, zup_at, ne_eq, not_false_eq_true, Nat.reduceEqDiff]); simp only [zup_at]; omega))) hd_X4_fail kw772 kw774 kp23 rfl (zltM hL (by decide)) (zl110 hL) (by decide) (by decide) (by decide) (by decide) rfl rfl (Nat.le_of_ble_eq_true rfl) dX4_groupOf_14 (fun r I' hp => ?_)
    rw [hp.1, hp.2]
    show zW G F 0 0 (zup (zup I 110 0 0) 110 0 1) [(0, .ref (F.1 110)), (1, .int (zI line))] [.int (zI 0)] 17
    exact hE _ _ _ _ dX4_groupOf_17 (k3 c9)

theorem c_X4_groupOf {F : zFr} {I : zStore}  {line : Int}  (hL : zLayM F) (hr : zRg I) (hl : -2147483648 ≤ line ∧ line < 2147483648) (hn : 0 ≤ I 110 3 ∧ I 110 3 ≤ 12) : ∀ (l : Launch) (D : va_G) (cs : Nat → ClassId), l.stackTraces = false → zMt l yX4_groupOf cX4_groupOf 2 (some .int) rm_X4_groupOf D cs F I [.ref (F.1 110), .int (zI line)] (fun r I' => r = some (.int (zI (if I 110 18 ≠ 0 then (if 0 ≤ line ∧ line < I 110 3 then I 123 line else 0) else 0))) ∧ I' = zup I 110 0 (if I 110 18 ≠ 0 then (if 0 ≤ line ∧ line < I 110 3 then 0 else 2) else 1)) :=
  fun l D cs hst => zMt.ofI hst (by decide +kernel) (Nat.le_of_ble_eq_true rfl) fun G hG hR hE => s_X4_groupOf hG hR hE hL hr hl hn
    (by intros; refine ⟨?_, ?_⟩ <;> (repeat' split) <;> first | rfl | (exfalso; omega) | exact zup_up _ _ _ _ _ | (simp only [zup_self]; done))
    (by intros; refine ⟨?_, ?_⟩ <;> (repeat' split) <;> first | rfl | (exfalso; omega) | exact zup_up _ _ _ _ _ | (simp only [zup_self]; done))
    (by intros; refine ⟨?_, ?_⟩ <;> (repeat' split) <;> first | rfl | (exfalso; omega) | exact zup_up _ _ _ _ _ | (simp only [zup_self]; done))
abbrev rm_X4_groupSlots : Room := { frames := 1, cells := 0, slots := 0, locals := 21 }
set_option maxRecDepth 100000 in
set_option maxHeartbeats 4000000 in
theorem s_X4_groupSlots {G : zCx} {F : zFr} {I : zStore} {post : Option Value → zStore → Prop}{g : Int} (hG : zOK G "LineLearnerModel" cX4_groupSlots 2) (hR : zRoom G rm_X4_groupSlots) (hE : zRetI G F cX4_groupSlots 0 0 post) (hL : zLayM F) (hr : zRg I) (hg : -2147483648 ≤ g ∧ g < 2147483648) (hc : 0 ≤ I 110 19 ∧ I 110 19 ≤ 12)
    (k1 : ((I 110 18) ≠ 0) → (g < 0) → post (some (.int (zI 0))) (zup (zup I 110 0 0) 110 0 2))
    (k2 : ((I 110 18) ≠ 0) → (0 ≤ g) → ((I 110 19) ≤ g) → post (some (.int (zI 0))) (zup (zup I 110 0 0) 110 0 2))
    (k3 : ((I 110 18) ≠ 0) → (0 ≤ g) → (g < (I 110 19)) → post (some (.int (zI (I 118 (1 + g))))) (zup I 110 0 0))
    (k4 : ((I 110 18) = 0) → post (some (.int (zI 0))) (zup (zup I 110 0 0) 110 0 1)) :
    zW G F 0 0 I [(0, .ref (F.1 110)), (1, .int (zI g))] [] 0 := by
  refine z_aload_n 0 hG dX4_groupSlots_0 rfl rfl ?_
  refine z_iconst 0 hG dX4_groupSlots_1 ?_
  refine z_putI hG zcl4 (zltM hL (by decide)) (zl110 hL) 0 (by decide) (ki := 0) rfl rfl kw677 rfl rfl dX4_groupSlots_2 ?_
  refine z_aload_n 0 hG dX4_groupSlots_5 rfl rfl ?_
  refine z_getI (v := I 110 18) hG zcl4 (zltM hL (by decide)) (zl110 hL) 18 (by decide) rfl rfl (zup_i (by decide)) kw695 dX4_groupSlots_6 ?_
  refine z_if_ne (tgt := 18) hG dX4_groupSlots_9 (by decide) (hr _ _) (fun c9 => ?_) (fun c9 => ?_)
  · skip
    refine z_iload_n 1 hG dX4_groupSlots_18 rfl rfl ?_
    refine z_if_lt (tgt := 41) hG dX4_groupSlots_19 (by decide) (by omega) (fun c19 => ?_) (fun c19 => ?_)
    · skip
      refine z_aload_n 0 hG dX4_groupSlots_41 rfl rfl ?_
      refine z_iconst 2 hG dX4_groupSlots_42 ?_
      refine z_callV [.int (zI 2)] hG hR (c_X4_fail hL (zRg_up hr (by decide)) (by first | assumption | omega | ((try simp only [zup_k, zup_i, zup_at, ne_eq, not_false_eq_true, Nat.reduceEqDiff]); simp only [zup_at]; omega))) hd_X4_fail kw772 kw774 kp23 rfl (zltM hL (by decide)) (zl110 hL) (by decide) (by decide) (by decide) (by decide) rfl rfl (Nat.le_of_ble_eq_true rfl) dX4_groupSlots_43 (fun r I' hp => ?_)
      rw [hp.1, hp.2]
      show zW G F 0 0 (zup (zup I 110 0 0) 110 0 2) [(0, .ref (F.1 110)), (1, .int (zI g))] [.int (zI 0)] 46
      exact hE _ _ _ _ dX4_groupSlots_46 (k1 c9 c19)
    · skip
      refine z_iload_n 1 hG dX4_groupSlots_22 rfl rfl ?_
      refine z_aload_n 0 hG dX4_groupSlots_23 rfl rfl ?_
      refine z_getI (v := I 110 19) hG zcl4 (zltM hL (by decide)) (zl110 hL) 19 (by decide) rfl rfl (zup_i (by decide)) kw696 dX4_groupSlots_24 ?_
      refine z_icmp_ge (tgt := 41) hG dX4_groupSlots_27 (by decide) (by omega) (hr _ _) (fun c27 => ?_) (fun c27 => ?_)
      · skip
        refine z_aload_n 0 hG dX4_groupSlots_41 rfl rfl ?_
        refine z_iconst 2 hG dX4_groupSlots_42 ?_
        refine z_callV [.int (zI 2)] hG hR (c_X4_fail hL (zRg_up hr (by decide)) (by first | assumption | omega | ((try simp only [zup_k, zup_i, zup_at, ne_eq, not_false_eq_true, Nat.reduceEqDiff]); simp only [zup_at]; omega))) hd_X4_fail kw772 kw774 kp23 rfl (zltM hL (by decide)) (zl110 hL) (by decide) (by decide) (by decide) (by decide) rfl rfl (Nat.le_of_ble_eq_true rfl) dX4_groupSlots_43 (fun r I' hp => ?_)
        rw [hp.1, hp.2]
        show zW G F 0 0 (zup (zup I 110 0 0) 110 0 2) [(0, .ref (F.1 110)), (1, .int (zI g))] [.int (zI 0)] 46
        exact hE _ _ _ _ dX4_groupSlots_46 (k2 c9 c19 c27)
      · skip
        refine z_aload_n 0 hG dX4_groupSlots_30 rfl rfl ?_
        refine z_getR (t := 118) hG zcl4 (zltM hL (by decide)) (zl110 hL) 13 (by decide) rfl kw690 dX4_groupSlots_31 ?_
        refine z_iconst 1 hG dX4_groupSlots_34 ?_
        refine z_iload_n 1 hG dX4_groupSlots_35 rfl rfl ?_
        refine z_iadd hG dX4_groupSlots_36 ?_
        refine z_iald (v := I 118 (1 + g)) hG (zltM hL (by decide)) (zl118 hL) (by decide) (by omega) (zup_k (by decide)) dX4_groupSlots_37 ?_
        refine z_goto (tgt := 46) hG dX4_groupSlots_38 (by decide) ?_
        exact hE _ _ _ _ dX4_groupSlots_46 (k3 c9 c19 c27)
  · skip
    refine z_aload_n 0 hG dX4_groupSlots_12 rfl rfl ?_
    refine z_iconst 1 hG dX4_groupSlots_13 ?_
    refine z_callV [.int (zI 1)] hG hR (c_X4_fail hL (zRg_up hr (by decide)) (by first | assumption | omega | ((try simp only [zup_k, zup_i, zup_at, ne_eq, not_false_eq_true, Nat.reduceEqDiff]); simp only [zup_at]; omega))) hd_X4_fail kw772 kw774 kp23 rfl (zltM hL (by decide)) (zl110 hL) (by decide) (by decide) (by decide) (by decide) rfl rfl (Nat.le_of_ble_eq_true rfl) dX4_groupSlots_14 (fun r I' hp => ?_)
    rw [hp.1, hp.2]
    show zW G F 0 0 (zup (zup I 110 0 0) 110 0 1) [(0, .ref (F.1 110)), (1, .int (zI g))] [.int (zI 0)] 17
    exact hE _ _ _ _ dX4_groupSlots_17 (k4 c9)

theorem c_X4_groupSlots {F : zFr} {I : zStore}  {g : Int}  (hL : zLayM F) (hr : zRg I) (hg : -2147483648 ≤ g ∧ g < 2147483648) (hc : 0 ≤ I 110 19 ∧ I 110 19 ≤ 12) : ∀ (l : Launch) (D : va_G) (cs : Nat → ClassId), l.stackTraces = false → zMt l yX4_groupSlots cX4_groupSlots 2 (some .int) rm_X4_groupSlots D cs F I [.ref (F.1 110), .int (zI g)] (fun r I' => r = some (.int (zI (if I 110 18 ≠ 0 then (if 0 ≤ g ∧ g < I 110 19 then I 118 (1 + g) else 0) else 0))) ∧ I' = zup I 110 0 (if I 110 18 ≠ 0 then (if 0 ≤ g ∧ g < I 110 19 then 0 else 2) else 1)) :=
  fun l D cs hst => zMt.ofI hst (by decide +kernel) (Nat.le_of_ble_eq_true rfl) fun G hG hR hE => s_X4_groupSlots hG hR hE hL hr hg hc
    (by intros; refine ⟨?_, ?_⟩ <;> (repeat' split) <;> first | rfl | (exfalso; omega) | exact zup_up _ _ _ _ _ | (simp only [zup_self]; done))
    (by intros; refine ⟨?_, ?_⟩ <;> (repeat' split) <;> first | rfl | (exfalso; omega) | exact zup_up _ _ _ _ _ | (simp only [zup_self]; done))
    (by intros; refine ⟨?_, ?_⟩ <;> (repeat' split) <;> first | rfl | (exfalso; omega) | exact zup_up _ _ _ _ _ | (simp only [zup_self]; done))
    (by intros; refine ⟨?_, ?_⟩ <;> (repeat' split) <;> first | rfl | (exfalso; omega) | exact zup_up _ _ _ _ _ | (simp only [zup_self]; done))
abbrev rm_X4_extreme : Room := { frames := 2, cells := 0, slots := 0, locals := 44 }
set_option maxRecDepth 100000 in
set_option maxHeartbeats 4000000 in
theorem s_X4_extreme_0 {G : zCx} {F : zFr} {I : zStore} {post : Option Value → zStore → Prop}{slot : Int} {g : Int} (hG : zOK G "LineLearnerModel" cX4_extreme 7) (hR : zRoom G rm_X4_extreme) (hE : zRetI G F cX4_extreme 0 0 post) (hL : zLayM F) (hr : zRg I)
    (k1 : zW G F 0 0 I [(0, .ref (F.1 110)), (1, .int (zI slot)), (2, .int (zI g)), (3, .int (zI (-1))), (4, .int (zI 0))] [] 5) :
    zW G F 0 0 I [(0, .ref (F.1 110)), (1, .int (zI slot)), (2, .int (zI g))] [] 0 := by
  refine z_iconst (-1) hG dX4_extreme_0 ?_
  refine z_istore_n (lv' := [(3, .int (zI (-1))), (0, .ref (F.1 110)), (1, .int (zI slot)), (2, .int (zI g))]) hG dX4_extreme_1 rfl (by decide) rfl ?_
  refine z_iconst 0 hG dX4_extreme_2 ?_
  refine z_istore (lv' := [(4, .int (zI 0)), (3, .int (zI (-1))), (0, .ref (F.1 110)), (1, .int (zI slot)), (2, .int (zI g))]) hG dX4_extreme_3 (by decide) rfl ?_
  refine z_perm (lv' := [(0, .ref (F.1 110)), (1, .int (zI slot)), (2, .int (zI g)), (3, .int (zI (-1))), (4, .int (zI 0))]) [2, 3, 4, 1, 0] rfl ?_
  exact k1

set_option maxRecDepth 100000 in
set_option maxHeartbeats 4000000 in
theorem s_X4_extreme_5 {G : zCx} {F : zFr} {I : zStore} {post : Option Value → zStore → Prop}{slot g x i : Int} (hG : zOK G "LineLearnerModel" cX4_extreme 7) (hR : zRoom G rm_X4_extreme) (hE : zRetI G F cX4_extreme 0 0 post) (hL : zLayM F) (hr : zRg I) (h1 : 0 ≤ slot ∧ slot < 40) (hg : 0 ≤ g ∧ g ≤ 1) (hx : -2147483648 ≤ x ∧ x < 2147483648) (h3 : 0 ≤ i ∧ i ≤ 12) (hn : 0 ≤ I 110 3 ∧ I 110 3 ≤ 12) (hu : ∀ l : Int, 0 ≤ l → l < I 110 3 → I 122 (12 * (40 * 0 + slot) + l) ≠ (-1) → 0 ≤ I 122 (12 * (40 * 0 + slot) + l) ∧ I 122 (12 * (40 * 0 + slot) + l) < 30)
    (k1 : ((I 110 3) ≤ i) → post (some (.int (zI x))) I)
    (k2 : (i < (I 110 3)) → ((I 122 (12 * (40 * 0 + slot) + i)) ≠ (-1)) → (x = (-1)) → zW G F 0 0 I [(0, .ref (F.1 110)), (1, .int (zI slot)), (2, .int (zI g)), (3, .int (zI (I 117 ((30 * i) + (I 122 (12 * (40 * 0 + slot) + i)))))), (4, .int (zI (i + 1)))] [] 5)
    (k3 : (i < (I 110 3)) → ((I 122 (12 * (40 * 0 + slot) + i)) ≠ (-1)) → (x ≠ (-1)) → (g = 0) → (g ≠ 0) → zW G F 0 0 I [(0, .ref (F.1 110)), (1, .int (zI slot)), (2, .int (zI g)), (3, .int (zI x)), (4, .int (zI (i + 1)))] [] 5)
    (k4 : (i < (I 110 3)) → ((I 122 (12 * (40 * 0 + slot) + i)) ≠ (-1)) → (x ≠ (-1)) → (g = 0) → (g = 0) → (x ≤ (I 117 ((30 * i) + (I 122 (12 * (40 * 0 + slot) + i))))) → zW G F 0 0 I [(0, .ref (F.1 110)), (1, .int (zI slot)), (2, .int (zI g)), (3, .int (zI x)), (4, .int (zI (i + 1)))] [] 5)
    (k5 : (i < (I 110 3)) → ((I 122 (12 * (40 * 0 + slot) + i)) ≠ (-1)) → (x ≠ (-1)) → (g = 0) → (g = 0) → ((I 117 ((30 * i) + (I 122 (12 * (40 * 0 + slot) + i)))) < x) → zW G F 0 0 I [(0, .ref (F.1 110)), (1, .int (zI slot)), (2, .int (zI g)), (3, .int (zI (I 117 ((30 * i) + (I 122 (12 * (40 * 0 + slot) + i)))))), (4, .int (zI (i + 1)))] [] 5)
    (k6 : (i < (I 110 3)) → ((I 122 (12 * (40 * 0 + slot) + i)) ≠ (-1)) → (x ≠ (-1)) → (g ≠ 0) → (x < (I 117 ((30 * i) + (I 122 (12 * (40 * 0 + slot) + i))))) → zW G F 0 0 I [(0, .ref (F.1 110)), (1, .int (zI slot)), (2, .int (zI g)), (3, .int (zI (I 117 ((30 * i) + (I 122 (12 * (40 * 0 + slot) + i)))))), (4, .int (zI (i + 1)))] [] 5)
    (k7 : (i < (I 110 3)) → ((I 122 (12 * (40 * 0 + slot) + i)) ≠ (-1)) → (x ≠ (-1)) → (g ≠ 0) → ((I 117 ((30 * i) + (I 122 (12 * (40 * 0 + slot) + i)))) ≤ x) → (g ≠ 0) → zW G F 0 0 I [(0, .ref (F.1 110)), (1, .int (zI slot)), (2, .int (zI g)), (3, .int (zI x)), (4, .int (zI (i + 1)))] [] 5)
    (k8 : (i < (I 110 3)) → ((I 122 (12 * (40 * 0 + slot) + i)) ≠ (-1)) → (x ≠ (-1)) → (g ≠ 0) → ((I 117 ((30 * i) + (I 122 (12 * (40 * 0 + slot) + i)))) ≤ x) → (g = 0) → (x ≤ (I 117 ((30 * i) + (I 122 (12 * (40 * 0 + slot) + i))))) → zW G F 0 0 I [(0, .ref (F.1 110)), (1, .int (zI slot)), (2, .int (zI g)), (3, .int (zI x)), (4, .int (zI (i + 1)))] [] 5)
    (k9 : (i < (I 110 3)) → ((I 122 (12 * (40 * 0 + slot) + i)) ≠ (-1)) → (x ≠ (-1)) → (g ≠ 0) → ((I 117 ((30 * i) + (I 122 (12 * (40 * 0 + slot) + i)))) ≤ x) → (g = 0) → ((I 117 ((30 * i) + (I 122 (12 * (40 * 0 + slot) + i)))) < x) → zW G F 0 0 I [(0, .ref (F.1 110)), (1, .int (zI slot)), (2, .int (zI g)), (3, .int (zI (I 117 ((30 * i) + (I 122 (12 * (40 * 0 + slot) + i)))))), (4, .int (zI (i + 1)))] [] 5)
    (k10 : (i < (I 110 3)) → ((I 122 (12 * (40 * 0 + slot) + i)) = (-1)) → zW G F 0 0 I [(0, .ref (F.1 110)), (1, .int (zI slot)), (2, .int (zI g)), (3, .int (zI x)), (4, .int (zI (i + 1)))] [] 5) :
    zW G F 0 0 I [(0, .ref (F.1 110)), (1, .int (zI slot)), (2, .int (zI g)), (3, .int (zI x)), (4, .int (zI i))] [] 5 := by
  refine z_iload 4 hG dX4_extreme_5 rfl ?_
  refine z_aload_n 0 hG dX4_extreme_7 rfl rfl ?_
  refine z_getI (v := I 110 3) hG zcl4 (zltM hL (by decide)) (zl110 hL) 3 (by decide) rfl rfl rfl kw680 dX4_extreme_8 ?_
  refine z_icmp_ge (tgt := 82) hG dX4_extreme_11 (by decide) (by omega) (hr _ _) (fun c11 => ?_) (fun c11 => ?_)
  · skip
    refine z_iload_n 3 hG dX4_extreme_82 rfl rfl ?_
    exact hE _ _ _ _ dX4_extreme_83 (k1 c11)
  · skip
    refine z_aload_n 0 hG dX4_extreme_14 rfl rfl ?_
    refine z_iconst 0 hG dX4_extreme_15 ?_
    refine z_iload_n 1 hG dX4_extreme_16 rfl rfl ?_
    refine z_iload 4 hG dX4_extreme_17 rfl ?_
    refine z_callV [.int (zI 0), .int (zI slot), .int (zI i)] hG hR (c_X4_tokenOf hL hr (by first | assumption | omega | ((try simp only [zup_k, zup_i, zup_at, ne_eq, not_false_eq_true, Nat.reduceEqDiff]); simp only [zup_at]; omega)) (by first | assumption | omega | ((try simp only [zup_k, zup_i, zup_at, ne_eq, not_false_eq_true, Nat.reduceEqDiff]); simp only [zup_at]; omega)) (by first | assumption | omega | ((try simp only [zup_k, zup_i, zup_at, ne_eq, not_false_eq_true, Nat.reduceEqDiff]); simp only [zup_at]; omega))) hd_X4_tokenOf kw844 kw846 kp31 rfl (zltM hL (by decide)) (zl110 hL) (by decide) (by decide) (by decide) (by decide) rfl rfl (Nat.le_of_ble_eq_true rfl) dX4_extreme_19 (fun r I' hp => ?_)
    rw [hp.1, hp.2]
    show zW G F 0 0 I [(0, .ref (F.1 110)), (1, .int (zI slot)), (2, .int (zI g)), (3, .int (zI x)), (4, .int (zI i))] [.int (zI (I 122 (12 * (40 * 0 + slot) + i)))] 22
    refine z_istore (lv' := [(5, .int (zI (I 122 (12 * (40 * 0 + slot) + i)))), (0, .ref (F.1 110)), (1, .int (zI slot)), (2, .int (zI g)), (3, .int (zI x)), (4, .int (zI i))]) hG dX4_extreme_22 (by decide) rfl ?_
    refine z_iload 0 hG dX4_extreme_24 rfl ?_
    refine z_iconst (-1) hG dX4_extreme_26 ?_
    refine z_icmp_ne (tgt := 33) hG dX4_extreme_27 (by decide) (hr _ _) (by decide) (fun c27 => ?_) (fun c27 => ?_)
    · skip
      have hu1 := hu i (by omega) (by omega) c27
      refine z_aload_n 1 hG dX4_extreme_33 rfl rfl ?_
      refine z_getR (t := 117) hG zcl4 (zltM hL (by decide)) (zl110 hL) 9 (by decide) rfl kw686 dX4_extreme_34 ?_
      refine z_bipush 30 hG dX4_extreme_37 (by decide) ?_
      refine z_iload 5 hG dX4_extreme_39 rfl ?_
      refine z_imul hG dX4_extreme_41 ?_
      refine z_iload 0 hG dX4_extreme_42 rfl ?_
      refine z_iadd hG dX4_extreme_44 ?_
      refine z_iald (v := I 117 ((30 * i) + (I 122 (12 * (40 * 0 + slot) + i)))) hG (zltM hL (by decide)) (zl117 hL) (by decide) (by omega) rfl dX4_extreme_45 ?_
      refine z_istore (lv' := [(6, .int (zI (I 117 ((30 * i) + (I 122 (12 * (40 * 0 + slot) + i)))))), (5, .int (zI (I 122 (12 * (40 * 0 + slot) + i)))), (0, .ref (F.1 110)), (1, .int (zI slot)), (2, .int (zI g)), (3, .int (zI x)), (4, .int (zI i))]) hG dX4_extreme_46 (by decide) rfl ?_
      refine z_iload_n 5 hG dX4_extreme_48 rfl rfl ?_
      refine z_iconst (-1) hG dX4_extreme_49 ?_
      refine z_icmp_eq (tgt := 73) hG dX4_extreme_50 (by decide) (by omega) (by decide) (fun c50 => ?_) (fun c50 => ?_)
      · skip
        refine z_iload 0 hG dX4_extreme_73 rfl ?_
        refine z_istore_n (lv' := [(3, .int (zI (I 117 ((30 * i) + (I 122 (12 * (40 * 0 + slot) + i)))))), (6, .int (zI (I 117 ((30 * i) + (I 122 (12 * (40 * 0 + slot) + i)))))), (5, .int (zI (I 122 (12 * (40 * 0 + slot) + i)))), (0, .ref (F.1 110)), (1, .int (zI slot)), (2, .int (zI g)), (4, .int (zI i))]) hG dX4_extreme_75 rfl (by decide) rfl ?_
        refine z_iinc (lv' := [(4, .int (zI (i + 1))), (3, .int (zI (I 117 ((30 * i) + (I 122 (12 * (40 * 0 + slot) + i)))))), (6, .int (zI (I 117 ((30 * i) + (I 122 (12 * (40 * 0 + slot) + i)))))), (5, .int (zI (I 122 (12 * (40 * 0 + slot) + i)))), (0, .ref (F.1 110)), (1, .int (zI slot)), (2, .int (zI g))]) 6 hG dX4_extreme_76 rfl (by decide) rfl ?_
        refine z_goto (tgt := 5) hG dX4_extreme_79 (by decide) ?_
        refine z_perm (lv' := [(0, .ref (F.1 110)), (1, .int (zI slot)), (2, .int (zI g)), (3, .int (zI (I 117 ((30 * i) + (I 122 (12 * (40 * 0 + slot) + i)))))), (4, .int (zI (i + 1)))]) [4, 5, 6, 1, 0] rfl ?_
        exact k2 c11 c27 c50
      · skip
        refine z_iload_n 4 hG dX4_extreme_53 rfl rfl ?_
        refine z_if_eq (tgt := 63) hG dX4_extreme_54 (by decide) (by omega) (fun c54 => ?_) (fun c54 => ?_)
        · skip
          refine z_iload_n 4 hG dX4_extreme_63 rfl rfl ?_
          refine z_if_ne (tgt := 76) hG dX4_extreme_64 (by decide) (by omega) (fun c64 => ?_) (fun c64 => ?_)
          · skip
            refine z_iinc (lv' := [(4, .int (zI (i + 1))), (6, .int (zI (I 117 ((30 * i) + (I 122 (12 * (40 * 0 + slot) + i)))))), (5, .int (zI (I 122 (12 * (40 * 0 + slot) + i)))), (0, .ref (F.1 110)), (1, .int (zI slot)), (2, .int (zI g)), (3, .int (zI x))]) 6 hG dX4_extreme_76 rfl (by decide) rfl ?_
            refine z_goto (tgt := 5) hG dX4_extreme_79 (by decide) ?_
            refine z_perm (lv' := [(0, .ref (F.1 110)), (1, .int (zI slot)), (2, .int (zI g)), (3, .int (zI x)), (4, .int (zI (i + 1)))]) [3, 4, 5, 6, 0] rfl ?_
            exact k3 c11 c27 c50 c54 c64
          · skip
            refine z_iload 0 hG dX4_extreme_67 rfl ?_
            refine z_iload_n 5 hG dX4_extreme_69 rfl rfl ?_
            refine z_icmp_ge (tgt := 76) hG dX4_extreme_70 (by decide) (hr _ _) (by omega) (fun c70 => ?_) (fun c70 => ?_)
            · skip
              refine z_iinc (lv' := [(4, .int (zI (i + 1))), (6, .int (zI (I 117 ((30 * i) + (I 122 (12 * (40 * 0 + slot) + i)))))), (5, .int (zI (I 122 (12 * (40 * 0 + slot) + i)))), (0, .ref (F.1 110)), (1, .int (zI slot)), (2, .int (zI g)), (3, .int (zI x))]) 6 hG dX4_extreme_76 rfl (by decide) rfl ?_
              refine z_goto (tgt := 5) hG dX4_extreme_79 (by decide) ?_
              refine z_perm (lv' := [(0, .ref (F.1 110)), (1, .int (zI slot)), (2, .int (zI g)), (3, .int (zI x)), (4, .int (zI (i + 1)))]) [3, 4, 5, 6, 0] rfl ?_
              exact k4 c11 c27 c50 c54 c64 c70
            · skip
              refine z_iload 0 hG dX4_extreme_73 rfl ?_
              refine z_istore_n (lv' := [(3, .int (zI (I 117 ((30 * i) + (I 122 (12 * (40 * 0 + slot) + i)))))), (6, .int (zI (I 117 ((30 * i) + (I 122 (12 * (40 * 0 + slot) + i)))))), (5, .int (zI (I 122 (12 * (40 * 0 + slot) + i)))), (0, .ref (F.1 110)), (1, .int (zI slot)), (2, .int (zI g)), (4, .int (zI i))]) hG dX4_extreme_75 rfl (by decide) rfl ?_
              refine z_iinc (lv' := [(4, .int (zI (i + 1))), (3, .int (zI (I 117 ((30 * i) + (I 122 (12 * (40 * 0 + slot) + i)))))), (6, .int (zI (I 117 ((30 * i) + (I 122 (12 * (40 * 0 + slot) + i)))))), (5, .int (zI (I 122 (12 * (40 * 0 + slot) + i)))), (0, .ref (F.1 110)), (1, .int (zI slot)), (2, .int (zI g))]) 6 hG dX4_extreme_76 rfl (by decide) rfl ?_
              refine z_goto (tgt := 5) hG dX4_extreme_79 (by decide) ?_
              refine z_perm (lv' := [(0, .ref (F.1 110)), (1, .int (zI slot)), (2, .int (zI g)), (3, .int (zI (I 117 ((30 * i) + (I 122 (12 * (40 * 0 + slot) + i)))))), (4, .int (zI (i + 1)))]) [4, 5, 6, 1, 0] rfl ?_
              exact k5 c11 c27 c50 c54 c64 c70
        · skip
          refine z_iload 0 hG dX4_extreme_57 rfl ?_
          refine z_iload_n 5 hG dX4_extreme_59 rfl rfl ?_
          refine z_icmp_gt (tgt := 73) hG dX4_extreme_60 (by decide) (hr _ _) (by omega) (fun c60 => ?_) (fun c60 => ?_)
          · skip
            refine z_iload 0 hG dX4_extreme_73 rfl ?_
            refine z_istore_n (lv' := [(3, .int (zI (I 117 ((30 * i) + (I 122 (12 * (40 * 0 + slot) + i)))))), (6, .int (zI (I 117 ((30 * i) + (I 122 (12 * (40 * 0 + slot) + i)))))), (5, .int (zI (I 122 (12 * (40 * 0 + slot) + i)))), (0, .ref (F.1 110)), (1, .int (zI slot)), (2, .int (zI g)), (4, .int (zI i))]) hG dX4_extreme_75 rfl (by decide) rfl ?_
            refine z_iinc (lv' := [(4, .int (zI (i + 1))), (3, .int (zI (I 117 ((30 * i) + (I 122 (12 * (40 * 0 + slot) + i)))))), (6, .int (zI (I 117 ((30 * i) + (I 122 (12 * (40 * 0 + slot) + i)))))), (5, .int (zI (I 122 (12 * (40 * 0 + slot) + i)))), (0, .ref (F.1 110)), (1, .int (zI slot)), (2, .int (zI g))]) 6 hG dX4_extreme_76 rfl (by decide) rfl ?_
            refine z_goto (tgt := 5) hG dX4_extreme_79 (by decide) ?_
            refine z_perm (lv' := [(0, .ref (F.1 110)), (1, .int (zI slot)), (2, .int (zI g)), (3, .int (zI (I 117 ((30 * i) + (I 122 (12 * (40 * 0 + slot) + i)))))), (4, .int (zI (i + 1)))]) [4, 5, 6, 1, 0] rfl ?_
            exact k6 c11 c27 c50 c54 c60
          · skip
            refine z_iload_n 4 hG dX4_extreme_63 rfl rfl ?_
            refine z_if_ne (tgt := 76) hG dX4_extreme_64 (by decide) (by omega) (fun c64 => ?_) (fun c64 => ?_)
            · skip
              refine z_iinc (lv' := [(4, .int (zI (i + 1))), (6, .int (zI (I 117 ((30 * i) + (I 122 (12 * (40 * 0 + slot) + i)))))), (5, .int (zI (I 122 (12 * (40 * 0 + slot) + i)))), (0, .ref (F.1 110)), (1, .int (zI slot)), (2, .int (zI g)), (3, .int (zI x))]) 6 hG dX4_extreme_76 rfl (by decide) rfl ?_
              refine z_goto (tgt := 5) hG dX4_extreme_79 (by decide) ?_
              refine z_perm (lv' := [(0, .ref (F.1 110)), (1, .int (zI slot)), (2, .int (zI g)), (3, .int (zI x)), (4, .int (zI (i + 1)))]) [3, 4, 5, 6, 0] rfl ?_
              exact k7 c11 c27 c50 c54 c60 c64
            · skip
              refine z_iload 0 hG dX4_extreme_67 rfl ?_
              refine z_iload_n 5 hG dX4_extreme_69 rfl rfl ?_
              refine z_icmp_ge (tgt := 76) hG dX4_extreme_70 (by decide) (hr _ _) (by omega) (fun c70 => ?_) (fun c70 => ?_)
              · skip
                refine z_iinc (lv' := [(4, .int (zI (i + 1))), (6, .int (zI (I 117 ((30 * i) + (I 122 (12 * (40 * 0 + slot) + i)))))), (5, .int (zI (I 122 (12 * (40 * 0 + slot) + i)))), (0, .ref (F.1 110)), (1, .int (zI slot)), (2, .int (zI g)), (3, .int (zI x))]) 6 hG dX4_extreme_76 rfl (by decide) rfl ?_
                refine z_goto (tgt := 5) hG dX4_extreme_79 (by decide) ?_
                refine z_perm (lv' := [(0, .ref (F.1 110)), (1, .int (zI slot)), (2, .int (zI g)), (3, .int (zI x)), (4, .int (zI (i + 1)))]) [3, 4, 5, 6, 0] rfl ?_
                exact k8 c11 c27 c50 c54 c60 c64 c70
              · skip
                refine z_iload 0 hG dX4_extreme_73 rfl ?_
                refine z_istore_n (lv' := [(3, .int (zI (I 117 ((30 * i) + (I 122 (12 * (40 * 0 + slot) + i)))))), (6, .int (zI (I 117 ((30 * i) + (I 122 (12 * (40 * 0 + slot) + i)))))), (5, .int (zI (I 122 (12 * (40 * 0 + slot) + i)))), (0, .ref (F.1 110)), (1, .int (zI slot)), (2, .int (zI g)), (4, .int (zI i))]) hG dX4_extreme_75 rfl (by decide) rfl ?_
                refine z_iinc (lv' := [(4, .int (zI (i + 1))), (3, .int (zI (I 117 ((30 * i) + (I 122 (12 * (40 * 0 + slot) + i)))))), (6, .int (zI (I 117 ((30 * i) + (I 122 (12 * (40 * 0 + slot) + i)))))), (5, .int (zI (I 122 (12 * (40 * 0 + slot) + i)))), (0, .ref (F.1 110)), (1, .int (zI slot)), (2, .int (zI g))]) 6 hG dX4_extreme_76 rfl (by decide) rfl ?_
                refine z_goto (tgt := 5) hG dX4_extreme_79 (by decide) ?_
                refine z_perm (lv' := [(0, .ref (F.1 110)), (1, .int (zI slot)), (2, .int (zI g)), (3, .int (zI (I 117 ((30 * i) + (I 122 (12 * (40 * 0 + slot) + i)))))), (4, .int (zI (i + 1)))]) [4, 5, 6, 1, 0] rfl ?_
                exact k9 c11 c27 c50 c54 c60 c64 c70
    · skip
      refine z_goto (tgt := 76) hG dX4_extreme_30 (by decide) ?_
      refine z_iinc (lv' := [(4, .int (zI (i + 1))), (5, .int (zI (I 122 (12 * (40 * 0 + slot) + i)))), (0, .ref (F.1 110)), (1, .int (zI slot)), (2, .int (zI g)), (3, .int (zI x))]) 5 hG dX4_extreme_76 rfl (by decide) rfl ?_
      refine z_goto (tgt := 5) hG dX4_extreme_79 (by decide) ?_
      refine z_perm (lv' := [(0, .ref (F.1 110)), (1, .int (zI slot)), (2, .int (zI g)), (3, .int (zI x)), (4, .int (zI (i + 1)))]) [2, 3, 4, 5, 0] rfl ?_
      exact k10 c11 c27

/-- the least or greatest size of the tokens of the first l lines that have used the slot; -1 if there is none -/
def zme (u z : Int → Int) (slot g : Int) : Nat → Int
  | 0 => -1
  | l + 1 => if u (12 * (40 * 0 + slot) + l) = (-1) then zme u z slot g l else if zme u z slot g l = (-1) ∨ (g ≠ 0 ∧ zme u z slot g l < z (30 * l + u (12 * (40 * 0 + slot) + l))) ∨ (g = 0 ∧ z (30 * l + u (12 * (40 * 0 + slot) + l)) < zme u z slot g l) then z (30 * l + u (12 * (40 * 0 + slot) + l)) else zme u z slot g l
theorem zme_rg {I : zStore} {slot g : Int} (hr : zRg I) : ∀ l : Nat, -2147483648 ≤ zme (I 122) (I 117) slot g l ∧ zme (I 122) (I 117) slot g l < 2147483648
  | 0 => by simp [zme]
  | l + 1 => by
    have h := zme_rg (slot := slot) (g := g) hr l
    have h2 := hr 117 (30 * l + I 122 (12 * (40 * 0 + slot) + l))
    unfold zme
    repeat' split
    all_goals assumption
set_option maxHeartbeats 4000000 in
theorem c_X4_extreme {F : zFr} {I : zStore} {slot g : Int} (hL : zLayM F) (hr : zRg I) (h1 : 0 ≤ slot ∧ slot < 40) (hg : 0 ≤ g ∧ g ≤ 1) (hn : 0 ≤ I 110 3 ∧ I 110 3 ≤ 12) (hu : ∀ l : Int, 0 ≤ l → l < I 110 3 → I 122 (12 * (40 * 0 + slot) + l) ≠ (-1) → 0 ≤ I 122 (12 * (40 * 0 + slot) + l) ∧ I 122 (12 * (40 * 0 + slot) + l) < 30) : ∀ (l : Launch) (D : va_G) (cs : Nat → ClassId), l.stackTraces = false → zMt l yX4_extreme cX4_extreme 7 (some .int) rm_X4_extreme D cs F I [.ref (F.1 110), .int (zI slot), .int (zI g)] (fun r I' => r = some (.int (zI (zme (I 122) (I 117) slot g (I 110 3).toNat))) ∧ I' = I) := by
  intro l D cs hst
  refine zMt.ofI hst (by decide +kernel) (Nat.le_of_ble_eq_true rfl) fun G hG hR hE => ?_
  refine s_X4_extreme_0 hG hR hE hL hr ?_
  have key : ∀ (d k : Nat), (k : Int) + d = I 110 3 → zW G F 0 0 I [(0, .ref (F.1 110)), (1, .int (zI slot)), (2, .int (zI g)), (3, .int (zI (zme (I 122) (I 117) slot g k))), (4, .int (zI k))] [] 5 := by
    intro d
    induction d with
    | zero =>
      intro k hk
      have hx := zme_rg (slot := slot) (g := g) hr k
      refine s_X4_extreme_5 hG hR hE hL hr h1 hg hx (by omega) hn hu (fun _ => ⟨?_, rfl⟩) (by intros; exfalso; omega) (by intros; exfalso; omega) (by intros; exfalso; omega) (by intros; exfalso; omega) (by intros; exfalso; omega) (by intros; exfalso; omega) (by intros; exfalso; omega) (by intros; exfalso; omega) (by intros; exfalso; omega)
      rw [show (I 110 3).toNat = k by omega]
    | succ d ih =>
      intro k hk
      have h := ih (k + 1) (by omega)
      have hx := zme_rg (slot := slot) (g := g) hr k
      have hs : zme (I 122) (I 117) slot g (k + 1) = if I 122 (12 * (40 * 0 + slot) + k) = (-1) then zme (I 122) (I 117) slot g k else if zme (I 122) (I 117) slot g k = (-1) ∨ (g ≠ 0 ∧ zme (I 122) (I 117) slot g k < I 117 (30 * k + I 122 (12 * (40 * 0 + slot) + k))) ∨ (g = 0 ∧ I 117 (30 * k + I 122 (12 * (40 * 0 + slot) + k)) < zme (I 122) (I 117) slot g k) then I 117 (30 * k + I 122 (12 * (40 * 0 + slot) + k)) else zme (I 122) (I 117) slot g k := rfl
      rw [hs] at h
      generalize zme (I 122) (I 117) slot g k = x at *
      refine s_X4_extreme_5 hG hR hE hL hr h1 hg hx (by omega) hn hu (by intros; first | (exfalso; omega) | (rw [if_neg (by omega), if_pos (by omega)] at h; exact h) | (rw [if_neg (by omega), if_neg (by omega)] at h; exact h) | (rw [if_pos (by omega)] at h; exact h)) (by intros; first | (exfalso; omega) | (rw [if_neg (by omega), if_pos (by omega)] at h; exact h) | (rw [if_neg (by omega), if_neg (by omega)] at h; exact h) | (rw [if_pos (by omega)] at h; exact h)) (by intros; first | (exfalso; omega) | (rw [if_neg (by omega), if_pos (by omega)] at h; exact h) | (rw [if_neg (by omega), if_neg (by omega)] at h; exact h) | (rw [if_pos (by omega)] at h; exact h)) (by intros; first | (exfalso; omega) | (rw [if_neg (by omega), if_pos (by omega)] at h; exact h) | (rw [if_neg (by omega), if_neg (by omega)] at h; exact h) | (rw [if_pos (by omega)] at h; exact h)) (by intros; first | (exfalso; omega) | (rw [if_neg (by omega), if_pos (by omega)] at h; exact h) | (rw [if_neg (by omega), if_neg (by omega)] at h; exact h) | (rw [if_pos (by omega)] at h; exact h)) (by intros; first | (exfalso; omega) | (rw [if_neg (by omega), if_pos (by omega)] at h; exact h) | (rw [if_neg (by omega), if_neg (by omega)] at h; exact h) | (rw [if_pos (by omega)] at h; exact h)) (by intros; first | (exfalso; omega) | (rw [if_neg (by omega), if_pos (by omega)] at h; exact h) | (rw [if_neg (by omega), if_neg (by omega)] at h; exact h) | (rw [if_pos (by omega)] at h; exact h)) (by intros; first | (exfalso; omega) | (rw [if_neg (by omega), if_pos (by omega)] at h; exact h) | (rw [if_neg (by omega), if_neg (by omega)] at h; exact h) | (rw [if_pos (by omega)] at h; exact h)) (by intros; first | (exfalso; omega) | (rw [if_neg (by omega), if_pos (by omega)] at h; exact h) | (rw [if_neg (by omega), if_neg (by omega)] at h; exact h) | (rw [if_pos (by omega)] at h; exact h)) (by intros; first | (exfalso; omega) | (rw [if_neg (by omega), if_pos (by omega)] at h; exact h) | (rw [if_neg (by omega), if_neg (by omega)] at h; exact h) | (rw [if_pos (by omega)] at h; exact h))
  exact key (I 110 3).toNat 0 (by omega)
abbrev rm_X4_sizeOf : Room := { frames := 3, cells := 0, slots := 0, locals := 70 }
set_option maxRecDepth 100000 in
set_option maxHeartbeats 4000000 in
theorem s_X4_sizeOf {G : zCx} {F : zFr} {I : zStore} {post : Option Value → zStore → Prop}{slot : Int} {g : Int} (hG : zOK G "LineLearnerModel" cX4_sizeOf 3) (hR : zRoom G rm_X4_sizeOf) (hE : zRetI G F cX4_sizeOf 0 0 post) (hL : zLayM F) (hr : zRg I) (hs : -2147483648 ≤ slot ∧ slot < 2147483648) (hg : 0 ≤ g ∧ g ≤ 1) (hf : 0 ≤ I 118 0 ∧ I 118 0 ≤ 40) (hn : 0 ≤ I 110 3 ∧ I 110 3 ≤ 12) (hu : ∀ _u : Unit, 0 ≤ slot → slot < I 118 0 → ∀ l : Int, 0 ≤ l → l < I 110 3 → I 122 (12 * (40 * 0 + slot) + l) ≠ (-1) → 0 ≤ I 122 (12 * (40 * 0 + slot) + l) ∧ I 122 (12 * (40 * 0 + slot) + l) < 30)
    (k1 : (¬ (0 ≤ slot ∧ slot < I 118 0)) → post (some (.int (zI 0))) (zup (zup I 110 0 0) 110 0 1))
    (k2 : (0 ≤ slot ∧ slot < I 118 0) → post (some (.int (zI (zme (I 122) (I 117) slot g (I 110 3).toNat)))) (zup I 110 0 0)) :
    zW G F 0 0 I [(0, .ref (F.1 110)), (1, .int (zI slot)), (2, .int (zI g))] [] 0 := by
  refine z_aload_n 0 hG dX4_sizeOf_0 rfl rfl ?_
  refine z_iconst 0 hG dX4_sizeOf_1 ?_
  refine z_putI hG zcl4 (zltM hL (by decide)) (zl110 hL) 0 (by decide) (ki := 0) rfl rfl kw677 rfl rfl dX4_sizeOf_2 ?_
  refine z_aload_n 0 hG dX4_sizeOf_5 rfl rfl ?_
  refine z_iload_n 1 hG dX4_sizeOf_6 rfl rfl ?_
  refine z_callV [.int (zI slot)] hG hR (c_X4_isSlot hL (zRg_up hr (by decide)) (by first | assumption | omega | ((try simp only [zup_k, zup_i, zup_at, ne_eq, not_false_eq_true, Nat.reduceEqDiff]); simp only [zup_at]; omega))) hd_X4_isSlot kw902 kw904 kp37 rfl (zltM hL (by decide)) (zl110 hL) (by decide) (by decide) (by decide) (by decide) rfl rfl (Nat.le_of_ble_eq_true rfl) dX4_sizeOf_7 (fun r I' hp => ?_)
  rw [hp.1, hp.2]
  show zW G F 0 0 (zup I 110 0 0) [(0, .ref (F.1 110)), (1, .int (zI slot)), (2, .int (zI g))] [.int (zI (if 0 ≤ slot ∧ slot < I 118 0 then 1 else 0))] 10
  refine z_if_eq (tgt := 22) hG dX4_sizeOf_10 (by decide) (by omega) (fun c10 => ?_) (fun c10 => ?_)
  · skip
    have c10b := zif_n c10
    refine z_aload_n 0 hG dX4_sizeOf_22 rfl rfl ?_
    refine z_iconst 1 hG dX4_sizeOf_23 ?_
    refine z_callV [.int (zI 1)] hG hR (c_X4_fail hL (zRg_up hr (by decide)) (by first | assumption | omega | ((try simp only [zup_k, zup_i, zup_at, ne_eq, not_false_eq_true, Nat.reduceEqDiff]); simp only [zup_at]; omega))) hd_X4_fail kw772 kw774 kp23 rfl (zltM hL (by decide)) (zl110 hL) (by decide) (by decide) (by decide) (by decide) rfl rfl (Nat.le_of_ble_eq_true rfl) dX4_sizeOf_24 (fun r I' hp => ?_)
    rw [hp.1, hp.2]
    show zW G F 0 0 (zup (zup I 110 0 0) 110 0 1) [(0, .ref (F.1 110)), (1, .int (zI slot)), (2, .int (zI g))] [.int (zI 0)] 27
    exact hE _ _ _ _ dX4_sizeOf_27 (k1 c10b)
  · skip
    have c10b := zif_y c10
    refine z_aload_n 0 hG dX4_sizeOf_13 rfl rfl ?_
    refine z_iload_n 1 hG dX4_sizeOf_14 rfl rfl ?_
    refine z_iload_n 2 hG dX4_sizeOf_15 rfl rfl ?_
    refine z_callV [.int (zI slot), .int (zI g)] hG hR (c_X4_extreme hL (zRg_up hr (by decide)) (by first | assumption | omega | ((try simp only [zup_k, zup_i, zup_at, ne_eq, not_false_eq_true, Nat.reduceEqDiff]); simp only [zup_at]; omega)) (by first | assumption | omega | ((try simp only [zup_k, zup_i, zup_at, ne_eq, not_false_eq_true, Nat.reduceEqDiff]); simp only [zup_at]; omega)) (by first | assumption | omega | ((try simp only [zup_k, zup_i, zup_at, ne_eq, not_false_eq_true, Nat.reduceEqDiff]); simp only [zup_at]; omega)) (hu () (by omega) (by omega))) hd_X4_extreme kw886 kw888 kp36 rfl (zltM hL (by decide)) (zl110 hL) (by decide) (by decide) (by decide) (by decide) rfl rfl (Nat.le_of_ble_eq_true rfl) dX4_sizeOf_16 (fun r I' hp => ?_)
    rw [hp.1, hp.2]
    have ha16_0 : -2147483648 ≤ (zme (I 122) (I 117) slot g (I 110 3).toNat) ∧ (zme (I 122) (I 117) slot g (I 110 3).toNat) < 2147483648 := zme_rg hr _
    show zW G F 0 0 (zup I 110 0 0) [(0, .ref (F.1 110)), (1, .int (zI slot)), (2, .int (zI g))] [.int (zI (zme (I 122) (I 117) slot g (I 110 3).toNat))] 19
    refine z_goto (tgt := 27) hG dX4_sizeOf_19 (by decide) ?_
    exact hE _ _ _ _ dX4_sizeOf_27 (k2 c10b)

theorem c_X4_sizeOf {F : zFr} {I : zStore}  {slot : Int} {g : Int}  (hL : zLayM F) (hr : zRg I) (hs : -2147483648 ≤ slot ∧ slot < 2147483648) (hg : 0 ≤ g ∧ g ≤ 1) (hf : 0 ≤ I 118 0 ∧ I 118 0 ≤ 40) (hn : 0 ≤ I 110 3 ∧ I 110 3 ≤ 12) (hu : ∀ _u : Unit, 0 ≤ slot → slot < I 118 0 → ∀ l : Int, 0 ≤ l → l < I 110 3 → I 122 (12 * (40 * 0 + slot) + l) ≠ (-1) → 0 ≤ I 122 (12 * (40 * 0 + slot) + l) ∧ I 122 (12 * (40 * 0 + slot) + l) < 30) : ∀ (l : Launch) (D : va_G) (cs : Nat → ClassId), l.stackTraces = false → zMt l yX4_sizeOf cX4_sizeOf 3 (some .int) rm_X4_sizeOf D cs F I [.ref (F.1 110), .int (zI slot), .int (zI g)] (fun r I' => r = some (.int (zI (if 0 ≤ slot ∧ slot < I 118 0 then zme (I 122) (I 117) slot g (I 110 3).toNat else 0))) ∧ I' = zup I 110 0 (if 0 ≤ slot ∧ slot < I 118 0 then 0 else 1)) :=
  fun l D cs hst => zMt.ofI hst (by decide +kernel) (Nat.le_of_ble_eq_true rfl) fun G hG hR hE => s_X4_sizeOf hG hR hE hL hr hs hg hf hn hu
    (by intros; refine ⟨?_, ?_⟩ <;> (repeat' split) <;> first | rfl | (exfalso; omega) | exact zup_up _ _ _ _ _ | (simp only [zup_self]; done))
    (by intros; refine ⟨?_, ?_⟩ <;> (repeat' split) <;> first | rfl | (exfalso; omega) | exact zup_up _ _ _ _ _ | (simp only [zup_self]; done))
