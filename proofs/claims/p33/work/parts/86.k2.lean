/-! the constructors without a loop -/
abbrev rm_X0_init : Room := { frames := 1, cells := 4, slots := 1402, locals := 40 }
set_option maxRecDepth 100000 in
set_option maxHeartbeats 4000000 in
theorem c_X0_init {F : zFr} {I : zStore} {x : Nat} {y t : Nat} (hty : t < F.2.1) (hyt : F.1 t = y) (hW : zWf (zext F [(x, .inl (0, [some none, none, none, none, some none, some none, none, none, some none, some none]))])) (hz : ∀ k, F.2.1 ≤ k → I k = fun _ => 0) : ∀ (l : Launch) (D : va_G) (cs : Nat → ClassId), l.stackTraces = false → zMn l yX0_init cX0_init 2 rm_X0_init D cs (zext F [(x, .inl (0, [some none, none, none, none, some none, some none, none, none, some none, some none]))]) I [.ref x, .ref y] (fun F' I' => (∃ a1 a2 a3 a4 : Nat, F' = zext F [(x, .inl (0, [some (some t), none, none, none, some (some (F.2.1 + 1)), some (some (F.2.1 + 2)), none, none, some (some (F.2.1 + 3)), some (some (F.2.1 + 4))])), (a1, .inr (.inl (0, 1271))), (a2, .inr (.inl (0, 70))), (a3, .inr (.inl (0, 30))), (a4, .inr (.inl (2, 31)))]) ∧ zWf F' ∧ I' = (zup (zup (zup I (F.2.1 + 0) 1 2) (F.2.1 + 0) 2 3) (F.2.1 + 0) 3 4)) := by
  intro l D cs hst
  refine zMn.ofN hst (by decide +kernel) rfl (Nat.le_of_ble_eq_true rfl) fun G hG hI hO hR hE => ?_
  show zW G (zext F [(x, .inl (0, [some none, none, none, none, some none, some none, none, none, some none, some none]))]) 0 0 I [(0, .ref x), (1, .ref y)] [] 0
  refine z_aload_n 0 hG dX0_init_0 rfl rfl ?_
  refine z_objInit hG hR kw75 kw20 kw21 (by decide) (Nat.le_of_ble_eq_true rfl) dX0_init_1 ?_
  refine z_aload_n 0 hG dX0_init_4 rfl rfl ?_
  refine z_iconst 2 hG dX0_init_5 ?_
  refine k_putI (ki := 1) 0 1 hG zcl0 rfl (by decide) rfl rfl kw77 rfl rfl dX0_init_6 ?_
  show zW G (zext F [(x, .inl (0, [some none, none, none, none, some none, some none, none, none, some none, some none]))]) 0 0 (zup I (F.2.1 + 0) 1 2) [(0, .ref x), (1, .ref y)] [] 9
  refine z_aload_n 0 hG dX0_init_9 rfl rfl ?_
  refine z_iconst 3 hG dX0_init_10 ?_
  refine k_putI (ki := 2) 0 2 hG zcl0 rfl (by decide) rfl rfl kw79 rfl rfl dX0_init_11 ?_
  show zW G (zext F [(x, .inl (0, [some none, none, none, none, some none, some none, none, none, some none, some none]))]) 0 0 (zup (zup I (F.2.1 + 0) 1 2) (F.2.1 + 0) 2 3) [(0, .ref x), (1, .ref y)] [] 14
  refine z_aload_n 0 hG dX0_init_14 rfl rfl ?_
  refine z_iconst 4 hG dX0_init_15 ?_
  refine k_putI (ki := 3) 0 3 hG zcl0 rfl (by decide) rfl rfl kw81 rfl rfl dX0_init_16 ?_
  show zW G (zext F [(x, .inl (0, [some none, none, none, none, some none, some none, none, none, some none, some none]))]) 0 0 (zup (zup (zup I (F.2.1 + 0) 1 2) (F.2.1 + 0) 2 3) (F.2.1 + 0) 3 4) [(0, .ref x), (1, .ref y)] [] 19
  refine z_aload_n 0 hG dX0_init_19 rfl rfl ?_
  refine z_sipush 1271 hG dX0_init_20 (by decide) ?_
  refine k_newI (N := 1271) hG hR hW (by rw [zup_c (by show F.2.1 + _ ≠ F.2.1 + 0; exact fun q => Nat.succ_ne_zero _ (Nat.add_left_cancel q)), zup_c (by show F.2.1 + _ ≠ F.2.1 + 0; exact fun q => Nat.succ_ne_zero _ (Nat.add_left_cancel q)), zup_c (by show F.2.1 + _ ≠ F.2.1 + 0; exact fun q => Nat.succ_ne_zero _ (Nat.add_left_cancel q))]; exact hz _ (by omega)) kw69 (Nat.le_of_ble_eq_true rfl) (Nat.le_of_ble_eq_true rfl) (Nat.le_of_ble_eq_true rfl) dX0_init_23 (fun a1 hW => ?_)
  have hW : zWf (zext F [(x, .inl (0, [some none, none, none, none, some none, some none, none, none, some none, some none])), (a1, .inr (.inl (0, 1271)))]) := hW
  show zW G (zext F [(x, .inl (0, [some none, none, none, none, some none, some none, none, none, some none, some none])), (a1, .inr (.inl (0, 1271)))]) 1 1271 (zup (zup (zup I (F.2.1 + 0) 1 2) (F.2.1 + 0) 2 3) (F.2.1 + 0) 3 4) [(0, .ref x), (1, .ref y)] [.ref a1, .ref x] 25
  refine k_putR (t := F.2.1 + 1) 0 4 hG hI hW zcl0 rfl (Nat.add_lt_add_left (Nat.le_of_ble_eq_true rfl) _) (zext_ad rfl) (by decide) (Nat.le_of_ble_eq_true rfl) kw83 rfl rfl rfl rfl dX0_init_25 (fun hW => ?_)
  have hW : zWf (zext F [(x, .inl (0, [some none, none, none, none, some (some (F.2.1 + 1)), some none, none, none, some none, some none])), (a1, .inr (.inl (0, 1271)))]) := hW
  show zW G (zext F [(x, .inl (0, [some none, none, none, none, some (some (F.2.1 + 1)), some none, none, none, some none, some none])), (a1, .inr (.inl (0, 1271)))]) 1 1271 (zup (zup (zup I (F.2.1 + 0) 1 2) (F.2.1 + 0) 2 3) (F.2.1 + 0) 3 4) [(0, .ref x), (1, .ref y)] [] 28
  refine z_aload_n 0 hG dX0_init_28 rfl rfl ?_
  refine z_bipush 70 hG dX0_init_29 (by decide) ?_
  refine k_newI (N := 70) hG hR hW (by rw [zup_c (by show F.2.1 + _ ≠ F.2.1 + 0; exact fun q => Nat.succ_ne_zero _ (Nat.add_left_cancel q)), zup_c (by show F.2.1 + _ ≠ F.2.1 + 0; exact fun q => Nat.succ_ne_zero _ (Nat.add_left_cancel q)), zup_c (by show F.2.1 + _ ≠ F.2.1 + 0; exact fun q => Nat.succ_ne_zero _ (Nat.add_left_cancel q))]; exact hz _ (by omega)) kw69 (Nat.le_of_ble_eq_true rfl) (Nat.le_of_ble_eq_true rfl) (Nat.le_of_ble_eq_true rfl) dX0_init_31 (fun a2 hW => ?_)
  have hW : zWf (zext F [(x, .inl (0, [some none, none, none, none, some (some (F.2.1 + 1)), some none, none, none, some none, some none])), (a1, .inr (.inl (0, 1271))), (a2, .inr (.inl (0, 70)))]) := hW
  show zW G (zext F [(x, .inl (0, [some none, none, none, none, some (some (F.2.1 + 1)), some none, none, none, some none, some none])), (a1, .inr (.inl (0, 1271))), (a2, .inr (.inl (0, 70)))]) 2 1341 (zup (zup (zup I (F.2.1 + 0) 1 2) (F.2.1 + 0) 2 3) (F.2.1 + 0) 3 4) [(0, .ref x), (1, .ref y)] [.ref a2, .ref x] 33
  refine k_putR (t := F.2.1 + 2) 0 5 hG hI hW zcl0 rfl (Nat.add_lt_add_left (Nat.le_of_ble_eq_true rfl) _) (zext_ad rfl) (by decide) (Nat.le_of_ble_eq_true rfl) kw84 rfl rfl rfl rfl dX0_init_33 (fun hW => ?_)
  have hW : zWf (zext F [(x, .inl (0, [some none, none, none, none, some (some (F.2.1 + 1)), some (some (F.2.1 + 2)), none, none, some none, some none])), (a1, .inr (.inl (0, 1271))), (a2, .inr (.inl (0, 70)))]) := hW
  show zW G (zext F [(x, .inl (0, [some none, none, none, none, some (some (F.2.1 + 1)), some (some (F.2.1 + 2)), none, none, some none, some none])), (a1, .inr (.inl (0, 1271))), (a2, .inr (.inl (0, 70)))]) 2 1341 (zup (zup (zup I (F.2.1 + 0) 1 2) (F.2.1 + 0) 2 3) (F.2.1 + 0) 3 4) [(0, .ref x), (1, .ref y)] [] 36
  refine z_aload_n 0 hG dX0_init_36 rfl rfl ?_
  refine z_bipush 30 hG dX0_init_37 (by decide) ?_
  refine k_newI (N := 30) hG hR hW (by rw [zup_c (by show F.2.1 + _ ≠ F.2.1 + 0; exact fun q => Nat.succ_ne_zero _ (Nat.add_left_cancel q)), zup_c (by show F.2.1 + _ ≠ F.2.1 + 0; exact fun q => Nat.succ_ne_zero _ (Nat.add_left_cancel q)), zup_c (by show F.2.1 + _ ≠ F.2.1 + 0; exact fun q => Nat.succ_ne_zero _ (Nat.add_left_cancel q))]; exact hz _ (by omega)) kw69 (Nat.le_of_ble_eq_true rfl) (Nat.le_of_ble_eq_true rfl) (Nat.le_of_ble_eq_true rfl) dX0_init_39 (fun a3 hW => ?_)
  have hW : zWf (zext F [(x, .inl (0, [some none, none, none, none, some (some (F.2.1 + 1)), some (some (F.2.1 + 2)), none, none, some none, some none])), (a1, .inr (.inl (0, 1271))), (a2, .inr (.inl (0, 70))), (a3, .inr (.inl (0, 30)))]) := hW
  show zW G (zext F [(x, .inl (0, [some none, none, none, none, some (some (F.2.1 + 1)), some (some (F.2.1 + 2)), none, none, some none, some none])), (a1, .inr (.inl (0, 1271))), (a2, .inr (.inl (0, 70))), (a3, .inr (.inl (0, 30)))]) 3 1371 (zup (zup (zup I (F.2.1 + 0) 1 2) (F.2.1 + 0) 2 3) (F.2.1 + 0) 3 4) [(0, .ref x), (1, .ref y)] [.ref a3, .ref x] 41
  refine k_putR (t := F.2.1 + 3) 0 8 hG hI hW zcl0 rfl (Nat.add_lt_add_left (Nat.le_of_ble_eq_true rfl) _) (zext_ad rfl) (by decide) (Nat.le_of_ble_eq_true rfl) kw87 rfl rfl rfl rfl dX0_init_41 (fun hW => ?_)
  have hW : zWf (zext F [(x, .inl (0, [some none, none, none, none, some (some (F.2.1 + 1)), some (some (F.2.1 + 2)), none, none, some (some (F.2.1 + 3)), some none])), (a1, .inr (.inl (0, 1271))), (a2, .inr (.inl (0, 70))), (a3, .inr (.inl (0, 30)))]) := hW
  show zW G (zext F [(x, .inl (0, [some none, none, none, none, some (some (F.2.1 + 1)), some (some (F.2.1 + 2)), none, none, some (some (F.2.1 + 3)), some none])), (a1, .inr (.inl (0, 1271))), (a2, .inr (.inl (0, 70))), (a3, .inr (.inl (0, 30)))]) 3 1371 (zup (zup (zup I (F.2.1 + 0) 1 2) (F.2.1 + 0) 2 3) (F.2.1 + 0) 3 4) [(0, .ref x), (1, .ref y)] [] 44
  refine z_aload_n 0 hG dX0_init_44 rfl rfl ?_
  refine z_bipush 31 hG dX0_init_45 (by decide) ?_
  refine k_newZ (N := 31) hG hR hW (by rw [zup_c (by show F.2.1 + _ ≠ F.2.1 + 0; exact fun q => Nat.succ_ne_zero _ (Nat.add_left_cancel q)), zup_c (by show F.2.1 + _ ≠ F.2.1 + 0; exact fun q => Nat.succ_ne_zero _ (Nat.add_left_cancel q)), zup_c (by show F.2.1 + _ ≠ F.2.1 + 0; exact fun q => Nat.succ_ne_zero _ (Nat.add_left_cancel q))]; exact hz _ (by omega)) kw111 (Nat.le_of_ble_eq_true rfl) (Nat.le_of_ble_eq_true rfl) (Nat.le_of_ble_eq_true rfl) dX0_init_47 (fun a4 hW => ?_)
  have hW : zWf (zext F [(x, .inl (0, [some none, none, none, none, some (some (F.2.1 + 1)), some (some (F.2.1 + 2)), none, none, some (some (F.2.1 + 3)), some none])), (a1, .inr (.inl (0, 1271))), (a2, .inr (.inl (0, 70))), (a3, .inr (.inl (0, 30))), (a4, .inr (.inl (2, 31)))]) := hW
  show zW G (zext F [(x, .inl (0, [some none, none, none, none, some (some (F.2.1 + 1)), some (some (F.2.1 + 2)), none, none, some (some (F.2.1 + 3)), some none])), (a1, .inr (.inl (0, 1271))), (a2, .inr (.inl (0, 70))), (a3, .inr (.inl (0, 30))), (a4, .inr (.inl (2, 31)))]) 4 1402 (zup (zup (zup I (F.2.1 + 0) 1 2) (F.2.1 + 0) 2 3) (F.2.1 + 0) 3 4) [(0, .ref x), (1, .ref y)] [.ref a4, .ref x] 49
  refine k_putR (t := F.2.1 + 4) 0 9 hG hI hW zcl0 rfl (Nat.add_lt_add_left (Nat.le_of_ble_eq_true rfl) _) (zext_ad rfl) (by decide) (Nat.le_of_ble_eq_true rfl) kw89 rfl rfl rfl rfl dX0_init_49 (fun hW => ?_)
  have hW : zWf (zext F [(x, .inl (0, [some none, none, none, none, some (some (F.2.1 + 1)), some (some (F.2.1 + 2)), none, none, some (some (F.2.1 + 3)), some (some (F.2.1 + 4))])), (a1, .inr (.inl (0, 1271))), (a2, .inr (.inl (0, 70))), (a3, .inr (.inl (0, 30))), (a4, .inr (.inl (2, 31)))]) := hW
  show zW G (zext F [(x, .inl (0, [some none, none, none, none, some (some (F.2.1 + 1)), some (some (F.2.1 + 2)), none, none, some (some (F.2.1 + 3)), some (some (F.2.1 + 4))])), (a1, .inr (.inl (0, 1271))), (a2, .inr (.inl (0, 70))), (a3, .inr (.inl (0, 30))), (a4, .inr (.inl (2, 31)))]) 4 1402 (zup (zup (zup I (F.2.1 + 0) 1 2) (F.2.1 + 0) 2 3) (F.2.1 + 0) 3 4) [(0, .ref x), (1, .ref y)] [] 52
  refine z_aload_n 0 hG dX0_init_52 rfl rfl ?_
  refine z_aload_n 1 hG dX0_init_53 rfl rfl ?_
  refine k_putR (t := t) 0 0 hG hI hW zcl0 rfl (Nat.lt_of_lt_of_le hty (Nat.le_add_right _ _)) ((zext_old _ F (Or.inl hty)).1.trans hyt) (by decide) (Nat.le_of_ble_eq_true rfl) kw76 rfl rfl rfl rfl dX0_init_54 (fun hW => ?_)
  have hW : zWf (zext F [(x, .inl (0, [some (some t), none, none, none, some (some (F.2.1 + 1)), some (some (F.2.1 + 2)), none, none, some (some (F.2.1 + 3)), some (some (F.2.1 + 4))])), (a1, .inr (.inl (0, 1271))), (a2, .inr (.inl (0, 70))), (a3, .inr (.inl (0, 30))), (a4, .inr (.inl (2, 31)))]) := hW
  show zW G (zext F [(x, .inl (0, [some (some t), none, none, none, some (some (F.2.1 + 1)), some (some (F.2.1 + 2)), none, none, some (some (F.2.1 + 3)), some (some (F.2.1 + 4))])), (a1, .inr (.inl (0, 1271))), (a2, .inr (.inl (0, 70))), (a3, .inr (.inl (0, 30))), (a4, .inr (.inl (2, 31)))]) 4 1402 (zup (zup (zup I (F.2.1 + 0) 1 2) (F.2.1 + 0) 2 3) (F.2.1 + 0) 3 4) [(0, .ref x), (1, .ref y)] [] 57
  exact hE _ _ _ _ dX0_init_57 zMore_1 ⟨⟨a1, a2, a3, a4, rfl⟩, hW, rfl⟩
abbrev rm_X1_init : Room := { frames := 1, cells := 6, slots := 240, locals := 40 }
set_option maxRecDepth 100000 in
set_option maxHeartbeats 4000000 in
theorem c_X1_init {F : zFr} {I : zStore} {x : Nat} (hW : zWf (zext F [(x, .inl (1, [none, none, some none, some none, some none, some none, some none, some none]))])) (hz : ∀ k, F.2.1 ≤ k → I k = fun _ => 0) : ∀ (l : Launch) (D : va_G) (cs : Nat → ClassId), l.stackTraces = false → zMn l yX1_init cX1_init 1 rm_X1_init D cs (zext F [(x, .inl (1, [none, none, some none, some none, some none, some none, some none, some none]))]) I [.ref x] (fun F' I' => (∃ a1 a2 a3 a4 a5 a6 : Nat, F' = zext F [(x, .inl (1, [none, none, some (some (F.2.1 + 1)), some (some (F.2.1 + 2)), some (some (F.2.1 + 3)), some (some (F.2.1 + 4)), some (some (F.2.1 + 5)), some (some (F.2.1 + 6))])), (a1, .inr (.inl (0, 40))), (a2, .inr (.inl (0, 40))), (a3, .inr (.inl (0, 40))), (a4, .inr (.inl (0, 40))), (a5, .inr (.inl (0, 40))), (a6, .inr (.inl (0, 40)))]) ∧ zWf F' ∧ I' = I) := by
  intro l D cs hst
  refine zMn.ofN hst (by decide +kernel) rfl (Nat.le_of_ble_eq_true rfl) fun G hG hI hO hR hE => ?_
  show zW G (zext F [(x, .inl (1, [none, none, some none, some none, some none, some none, some none, some none]))]) 0 0 I [(0, .ref x)] [] 0
  refine z_aload_n 0 hG dX1_init_0 rfl rfl ?_
  refine z_objInit hG hR kw117 kw20 kw21 (by decide) (Nat.le_of_ble_eq_true rfl) dX1_init_1 ?_
  refine z_aload_n 0 hG dX1_init_4 rfl rfl ?_
  refine z_bipush 40 hG dX1_init_5 (by decide) ?_
  refine k_newI (N := 40) hG hR hW (hz _ (by omega)) kw69 (Nat.le_of_ble_eq_true rfl) (Nat.le_of_ble_eq_true rfl) (Nat.le_of_ble_eq_true rfl) dX1_init_7 (fun a1 hW => ?_)
  have hW : zWf (zext F [(x, .inl (1, [none, none, some none, some none, some none, some none, some none, some none])), (a1, .inr (.inl (0, 40)))]) := hW
  show zW G (zext F [(x, .inl (1, [none, none, some none, some none, some none, some none, some none, some none])), (a1, .inr (.inl (0, 40)))]) 1 40 I [(0, .ref x)] [.ref a1, .ref x] 9
  refine k_putR (t := F.2.1 + 1) 0 2 hG hI hW zcl1 rfl (Nat.add_lt_add_left (Nat.le_of_ble_eq_true rfl) _) (zext_ad rfl) (by decide) (Nat.le_of_ble_eq_true rfl) kw124 rfl rfl rfl rfl dX1_init_9 (fun hW => ?_)
  have hW : zWf (zext F [(x, .inl (1, [none, none, some (some (F.2.1 + 1)), some none, some none, some none, some none, some none])), (a1, .inr (.inl (0, 40)))]) := hW
  show zW G (zext F [(x, .inl (1, [none, none, some (some (F.2.1 + 1)), some none, some none, some none, some none, some none])), (a1, .inr (.inl (0, 40)))]) 1 40 I [(0, .ref x)] [] 12
  refine z_aload_n 0 hG dX1_init_12 rfl rfl ?_
  refine z_bipush 40 hG dX1_init_13 (by decide) ?_
  refine k_newI (N := 40) hG hR hW (hz _ (by omega)) kw69 (Nat.le_of_ble_eq_true rfl) (Nat.le_of_ble_eq_true rfl) (Nat.le_of_ble_eq_true rfl) dX1_init_15 (fun a2 hW => ?_)
  have hW : zWf (zext F [(x, .inl (1, [none, none, some (some (F.2.1 + 1)), some none, some none, some none, some none, some none])), (a1, .inr (.inl (0, 40))), (a2, .inr (.inl (0, 40)))]) := hW
  show zW G (zext F [(x, .inl (1, [none, none, some (some (F.2.1 + 1)), some none, some none, some none, some none, some none])), (a1, .inr (.inl (0, 40))), (a2, .inr (.inl (0, 40)))]) 2 80 I [(0, .ref x)] [.ref a2, .ref x] 17
  refine k_putR (t := F.2.1 + 2) 0 3 hG hI hW zcl1 rfl (Nat.add_lt_add_left (Nat.le_of_ble_eq_true rfl) _) (zext_ad rfl) (by decide) (Nat.le_of_ble_eq_true rfl) kw127 rfl rfl rfl rfl dX1_init_17 (fun hW => ?_)
  have hW : zWf (zext F [(x, .inl (1, [none, none, some (some (F.2.1 + 1)), some (some (F.2.1 + 2)), some none, some none, some none, some none])), (a1, .inr (.inl (0, 40))), (a2, .inr (.inl (0, 40)))]) := hW
  show zW G (zext F [(x, .inl (1, [none, none, some (some (F.2.1 + 1)), some (some (F.2.1 + 2)), some none, some none, some none, some none])), (a1, .inr (.inl (0, 40))), (a2, .inr (.inl (0, 40)))]) 2 80 I [(0, .ref x)] [] 20
  refine z_aload_n 0 hG dX1_init_20 rfl rfl ?_
  refine z_bipush 40 hG dX1_init_21 (by decide) ?_
  refine k_newI (N := 40) hG hR hW (hz _ (by omega)) kw69 (Nat.le_of_ble_eq_true rfl) (Nat.le_of_ble_eq_true rfl) (Nat.le_of_ble_eq_true rfl) dX1_init_23 (fun a3 hW => ?_)
  have hW : zWf (zext F [(x, .inl (1, [none, none, some (some (F.2.1 + 1)), some (some (F.2.1 + 2)), some none, some none, some none, some none])), (a1, .inr (.inl (0, 40))), (a2, .inr (.inl (0, 40))), (a3, .inr (.inl (0, 40)))]) := hW
  show zW G (zext F [(x, .inl (1, [none, none, some (some (F.2.1 + 1)), some (some (F.2.1 + 2)), some none, some none, some none, some none])), (a1, .inr (.inl (0, 40))), (a2, .inr (.inl (0, 40))), (a3, .inr (.inl (0, 40)))]) 3 120 I [(0, .ref x)] [.ref a3, .ref x] 25
  refine k_putR (t := F.2.1 + 3) 0 4 hG hI hW zcl1 rfl (Nat.add_lt_add_left (Nat.le_of_ble_eq_true rfl) _) (zext_ad rfl) (by decide) (Nat.le_of_ble_eq_true rfl) kw130 rfl rfl rfl rfl dX1_init_25 (fun hW => ?_)
  have hW : zWf (zext F [(x, .inl (1, [none, none, some (some (F.2.1 + 1)), some (some (F.2.1 + 2)), some (some (F.2.1 + 3)), some none, some none, some none])), (a1, .inr (.inl (0, 40))), (a2, .inr (.inl (0, 40))), (a3, .inr (.inl (0, 40)))]) := hW
  show zW G (zext F [(x, .inl (1, [none, none, some (some (F.2.1 + 1)), some (some (F.2.1 + 2)), some (some (F.2.1 + 3)), some none, some none, some none])), (a1, .inr (.inl (0, 40))), (a2, .inr (.inl (0, 40))), (a3, .inr (.inl (0, 40)))]) 3 120 I [(0, .ref x)] [] 28
  refine z_aload_n 0 hG dX1_init_28 rfl rfl ?_
  refine z_bipush 40 hG dX1_init_29 (by decide) ?_
  refine k_newI (N := 40) hG hR hW (hz _ (by omega)) kw69 (Nat.le_of_ble_eq_true rfl) (Nat.le_of_ble_eq_true rfl) (Nat.le_of_ble_eq_true rfl) dX1_init_31 (fun a4 hW => ?_)
  have hW : zWf (zext F [(x, .inl (1, [none, none, some (some (F.2.1 + 1)), some (some (F.2.1 + 2)), some (some (F.2.1 + 3)), some none, some none, some none])), (a1, .inr (.inl (0, 40))), (a2, .inr (.inl (0, 40))), (a3, .inr (.inl (0, 40))), (a4, .inr (.inl (0, 40)))]) := hW
  show zW G (zext F [(x, .inl (1, [none, none, some (some (F.2.1 + 1)), some (some (F.2.1 + 2)), some (some (F.2.1 + 3)), some none, some none, some none])), (a1, .inr (.inl (0, 40))), (a2, .inr (.inl (0, 40))), (a3, .inr (.inl (0, 40))), (a4, .inr (.inl (0, 40)))]) 4 160 I [(0, .ref x)] [.ref a4, .ref x] 33
  refine k_putR (t := F.2.1 + 4) 0 5 hG hI hW zcl1 rfl (Nat.add_lt_add_left (Nat.le_of_ble_eq_true rfl) _) (zext_ad rfl) (by decide) (Nat.le_of_ble_eq_true rfl) kw133 rfl rfl rfl rfl dX1_init_33 (fun hW => ?_)
  have hW : zWf (zext F [(x, .inl (1, [none, none, some (some (F.2.1 + 1)), some (some (F.2.1 + 2)), some (some (F.2.1 + 3)), some (some (F.2.1 + 4)), some none, some none])), (a1, .inr (.inl (0, 40))), (a2, .inr (.inl (0, 40))), (a3, .inr (.inl (0, 40))), (a4, .inr (.inl (0, 40)))]) := hW
  show zW G (zext F [(x, .inl (1, [none, none, some (some (F.2.1 + 1)), some (some (F.2.1 + 2)), some (some (F.2.1 + 3)), some (some (F.2.1 + 4)), some none, some none])), (a1, .inr (.inl (0, 40))), (a2, .inr (.inl (0, 40))), (a3, .inr (.inl (0, 40))), (a4, .inr (.inl (0, 40)))]) 4 160 I [(0, .ref x)] [] 36
  refine z_aload_n 0 hG dX1_init_36 rfl rfl ?_
  refine z_bipush 40 hG dX1_init_37 (by decide) ?_
  refine k_newI (N := 40) hG hR hW (hz _ (by omega)) kw69 (Nat.le_of_ble_eq_true rfl) (Nat.le_of_ble_eq_true rfl) (Nat.le_of_ble_eq_true rfl) dX1_init_39 (fun a5 hW => ?_)
  have hW : zWf (zext F [(x, .inl (1, [none, none, some (some (F.2.1 + 1)), some (some (F.2.1 + 2)), some (some (F.2.1 + 3)), some (some (F.2.1 + 4)), some none, some none])), (a1, .inr (.inl (0, 40))), (a2, .inr (.inl (0, 40))), (a3, .inr (.inl (0, 40))), (a4, .inr (.inl (0, 40))), (a5, .inr (.inl (0, 40)))]) := hW
  show zW G (zext F [(x, .inl (1, [none, none, some (some (F.2.1 + 1)), some (some (F.2.1 + 2)), some (some (F.2.1 + 3)), some (some (F.2.1 + 4)), some none, some none])), (a1, .inr (.inl (0, 40))), (a2, .inr (.inl (0, 40))), (a3, .inr (.inl (0, 40))), (a4, .inr (.inl (0, 40))), (a5, .inr (.inl (0, 40)))]) 5 200 I [(0, .ref x)] [.ref a5, .ref x] 41
  refine k_putR (t := F.2.1 + 5) 0 6 hG hI hW zcl1 rfl (Nat.add_lt_add_left (Nat.le_of_ble_eq_true rfl) _) (zext_ad rfl) (by decide) (Nat.le_of_ble_eq_true rfl) kw136 rfl rfl rfl rfl dX1_init_41 (fun hW => ?_)
  have hW : zWf (zext F [(x, .inl (1, [none, none, some (some (F.2.1 + 1)), some (some (F.2.1 + 2)), some (some (F.2.1 + 3)), some (some (F.2.1 + 4)), some (some (F.2.1 + 5)), some none])), (a1, .inr (.inl (0, 40))), (a2, .inr (.inl (0, 40))), (a3, .inr (.inl (0, 40))), (a4, .inr (.inl (0, 40))), (a5, .inr (.inl (0, 40)))]) := hW
  show zW G (zext F [(x, .inl (1, [none, none, some (some (F.2.1 + 1)), some (some (F.2.1 + 2)), some (some (F.2.1 + 3)), some (some (F.2.1 + 4)), some (some (F.2.1 + 5)), some none])), (a1, .inr (.inl (0, 40))), (a2, .inr (.inl (0, 40))), (a3, .inr (.inl (0, 40))), (a4, .inr (.inl (0, 40))), (a5, .inr (.inl (0, 40)))]) 5 200 I [(0, .ref x)] [] 44
  refine z_aload_n 0 hG dX1_init_44 rfl rfl ?_
  refine z_bipush 40 hG dX1_init_45 (by decide) ?_
  refine k_newI (N := 40) hG hR hW (hz _ (by omega)) kw69 (Nat.le_of_ble_eq_true rfl) (Nat.le_of_ble_eq_true rfl) (Nat.le_of_ble_eq_true rfl) dX1_init_47 (fun a6 hW => ?_)
  have hW : zWf (zext F [(x, .inl (1, [none, none, some (some (F.2.1 + 1)), some (some (F.2.1 + 2)), some (some (F.2.1 + 3)), some (some (F.2.1 + 4)), some (some (F.2.1 + 5)), some none])), (a1, .inr (.inl (0, 40))), (a2, .inr (.inl (0, 40))), (a3, .inr (.inl (0, 40))), (a4, .inr (.inl (0, 40))), (a5, .inr (.inl (0, 40))), (a6, .inr (.inl (0, 40)))]) := hW
  show zW G (zext F [(x, .inl (1, [none, none, some (some (F.2.1 + 1)), some (some (F.2.1 + 2)), some (some (F.2.1 + 3)), some (some (F.2.1 + 4)), some (some (F.2.1 + 5)), some none])), (a1, .inr (.inl (0, 40))), (a2, .inr (.inl (0, 40))), (a3, .inr (.inl (0, 40))), (a4, .inr (.inl (0, 40))), (a5, .inr (.inl (0, 40))), (a6, .inr (.inl (0, 40)))]) 6 240 I [(0, .ref x)] [.ref a6, .ref x] 49
  refine k_putR (t := F.2.1 + 6) 0 7 hG hI hW zcl1 rfl (Nat.add_lt_add_left (Nat.le_of_ble_eq_true rfl) _) (zext_ad rfl) (by decide) (Nat.le_of_ble_eq_true rfl) kw139 rfl rfl rfl rfl dX1_init_49 (fun hW => ?_)
  have hW : zWf (zext F [(x, .inl (1, [none, none, some (some (F.2.1 + 1)), some (some (F.2.1 + 2)), some (some (F.2.1 + 3)), some (some (F.2.1 + 4)), some (some (F.2.1 + 5)), some (some (F.2.1 + 6))])), (a1, .inr (.inl (0, 40))), (a2, .inr (.inl (0, 40))), (a3, .inr (.inl (0, 40))), (a4, .inr (.inl (0, 40))), (a5, .inr (.inl (0, 40))), (a6, .inr (.inl (0, 40)))]) := hW
  show zW G (zext F [(x, .inl (1, [none, none, some (some (F.2.1 + 1)), some (some (F.2.1 + 2)), some (some (F.2.1 + 3)), some (some (F.2.1 + 4)), some (some (F.2.1 + 5)), some (some (F.2.1 + 6))])), (a1, .inr (.inl (0, 40))), (a2, .inr (.inl (0, 40))), (a3, .inr (.inl (0, 40))), (a4, .inr (.inl (0, 40))), (a5, .inr (.inl (0, 40))), (a6, .inr (.inl (0, 40)))]) 6 240 I [(0, .ref x)] [] 52
  exact hE _ _ _ _ dX1_init_52 zMore_1 ⟨⟨a1, a2, a3, a4, a5, a6, rfl⟩, hW, rfl⟩
abbrev rm_X2_init : Room := { frames := 1, cells := 7, slots := 1824, locals := 40 }
set_option maxRecDepth 100000 in
set_option maxHeartbeats 4000000 in
theorem c_X2_init {F : zFr} {I : zStore} {x : Nat} (hW : zWf (zext F [(x, .inl (2, [none, some none, some none, some none, some none, some none, some none, some none]))])) (hz : ∀ k, F.2.1 ≤ k → I k = fun _ => 0) : ∀ (l : Launch) (D : va_G) (cs : Nat → ClassId), l.stackTraces = false → zMn l yX2_init cX2_init 1 rm_X2_init D cs (zext F [(x, .inl (2, [none, some none, some none, some none, some none, some none, some none, some none]))]) I [.ref x] (fun F' I' => (∃ a1 a2 a3 a4 a5 a6 a7 : Nat, F' = zext F [(x, .inl (2, [none, some (some (F.2.1 + 1)), some (some (F.2.1 + 2)), some (some (F.2.1 + 3)), some (some (F.2.1 + 4)), some (some (F.2.1 + 5)), some (some (F.2.1 + 6)), some (some (F.2.1 + 7))])), (a1, .inr (.inl (0, 12))), (a2, .inr (.inl (0, 12))), (a3, .inr (.inl (1, 360))), (a4, .inr (.inl (0, 360))), (a5, .inr (.inl (0, 360))), (a6, .inr (.inl (0, 360))), (a7, .inr (.inl (0, 360)))]) ∧ zWf F' ∧ I' = I) := by
  intro l D cs hst
  refine zMn.ofN hst (by decide +kernel) rfl (Nat.le_of_ble_eq_true rfl) fun G hG hI hO hR hE => ?_
  show zW G (zext F [(x, .inl (2, [none, some none, some none, some none, some none, some none, some none, some none]))]) 0 0 I [(0, .ref x)] [] 0
  refine z_aload_n 0 hG dX2_init_0 rfl rfl ?_
  refine z_objInit hG hR kw27 kw20 kw21 (by decide) (Nat.le_of_ble_eq_true rfl) dX2_init_1 ?_
  refine z_aload_n 0 hG dX2_init_4 rfl rfl ?_
  refine z_bipush 12 hG dX2_init_5 (by decide) ?_
  refine k_newI (N := 12) hG hR hW (hz _ (by omega)) kw69 (Nat.le_of_ble_eq_true rfl) (Nat.le_of_ble_eq_true rfl) (Nat.le_of_ble_eq_true rfl) dX2_init_7 (fun a1 hW => ?_)
  have hW : zWf (zext F [(x, .inl (2, [none, some none, some none, some none, some none, some none, some none, some none])), (a1, .inr (.inl (0, 12)))]) := hW
  show zW G (zext F [(x, .inl (2, [none, some none, some none, some none, some none, some none, some none, some none])), (a1, .inr (.inl (0, 12)))]) 1 12 I [(0, .ref x)] [.ref a1, .ref x] 9
  refine k_putR (t := F.2.1 + 1) 0 1 hG hI hW zcl2 rfl (Nat.add_lt_add_left (Nat.le_of_ble_eq_true rfl) _) (zext_ad rfl) (by decide) (Nat.le_of_ble_eq_true rfl) kw30 rfl rfl rfl rfl dX2_init_9 (fun hW => ?_)
  have hW : zWf (zext F [(x, .inl (2, [none, some (some (F.2.1 + 1)), some none, some none, some none, some none, some none, some none])), (a1, .inr (.inl (0, 12)))]) := hW
  show zW G (zext F [(x, .inl (2, [none, some (some (F.2.1 + 1)), some none, some none, some none, some none, some none, some none])), (a1, .inr (.inl (0, 12)))]) 1 12 I [(0, .ref x)] [] 12
  refine z_aload_n 0 hG dX2_init_12 rfl rfl ?_
  refine z_bipush 12 hG dX2_init_13 (by decide) ?_
  refine k_newI (N := 12) hG hR hW (hz _ (by omega)) kw69 (Nat.le_of_ble_eq_true rfl) (Nat.le_of_ble_eq_true rfl) (Nat.le_of_ble_eq_true rfl) dX2_init_15 (fun a2 hW => ?_)
  have hW : zWf (zext F [(x, .inl (2, [none, some (some (F.2.1 + 1)), some none, some none, some none, some none, some none, some none])), (a1, .inr (.inl (0, 12))), (a2, .inr (.inl (0, 12)))]) := hW
  show zW G (zext F [(x, .inl (2, [none, some (some (F.2.1 + 1)), some none, some none, some none, some none, some none, some none])), (a1, .inr (.inl (0, 12))), (a2, .inr (.inl (0, 12)))]) 2 24 I [(0, .ref x)] [.ref a2, .ref x] 17
  refine k_putR (t := F.2.1 + 2) 0 2 hG hI hW zcl2 rfl (Nat.add_lt_add_left (Nat.le_of_ble_eq_true rfl) _) (zext_ad rfl) (by decide) (Nat.le_of_ble_eq_true rfl) kw32 rfl rfl rfl rfl dX2_init_17 (fun hW => ?_)
  have hW : zWf (zext F [(x, .inl (2, [none, some (some (F.2.1 + 1)), some (some (F.2.1 + 2)), some none, some none, some none, some none, some none])), (a1, .inr (.inl (0, 12))), (a2, .inr (.inl (0, 12)))]) := hW
  show zW G (zext F [(x, .inl (2, [none, some (some (F.2.1 + 1)), some (some (F.2.1 + 2)), some none, some none, some none, some none, some none])), (a1, .inr (.inl (0, 12))), (a2, .inr (.inl (0, 12)))]) 2 24 I [(0, .ref x)] [] 20
  refine z_aload_n 0 hG dX2_init_20 rfl rfl ?_
  refine z_sipush 360 hG dX2_init_21 (by decide) ?_
  refine k_newB (N := 360) hG hR hW (hz _ (by omega)) kw68 (Nat.le_of_ble_eq_true rfl) (Nat.le_of_ble_eq_true rfl) (Nat.le_of_ble_eq_true rfl) dX2_init_24 (fun a3 hW => ?_)
  have hW : zWf (zext F [(x, .inl (2, [none, some (some (F.2.1 + 1)), some (some (F.2.1 + 2)), some none, some none, some none, some none, some none])), (a1, .inr (.inl (0, 12))), (a2, .inr (.inl (0, 12))), (a3, .inr (.inl (1, 360)))]) := hW
  show zW G (zext F [(x, .inl (2, [none, some (some (F.2.1 + 1)), some (some (F.2.1 + 2)), some none, some none, some none, some none, some none])), (a1, .inr (.inl (0, 12))), (a2, .inr (.inl (0, 12))), (a3, .inr (.inl (1, 360)))]) 3 384 I [(0, .ref x)] [.ref a3, .ref x] 26
  refine k_putR (t := F.2.1 + 3) 0 3 hG hI hW zcl2 rfl (Nat.add_lt_add_left (Nat.le_of_ble_eq_true rfl) _) (zext_ad rfl) (by decide) (Nat.le_of_ble_eq_true rfl) kw35 rfl rfl rfl rfl dX2_init_26 (fun hW => ?_)
  have hW : zWf (zext F [(x, .inl (2, [none, some (some (F.2.1 + 1)), some (some (F.2.1 + 2)), some (some (F.2.1 + 3)), some none, some none, some none, some none])), (a1, .inr (.inl (0, 12))), (a2, .inr (.inl (0, 12))), (a3, .inr (.inl (1, 360)))]) := hW
  show zW G (zext F [(x, .inl (2, [none, some (some (F.2.1 + 1)), some (some (F.2.1 + 2)), some (some (F.2.1 + 3)), some none, some none, some none, some none])), (a1, .inr (.inl (0, 12))), (a2, .inr (.inl (0, 12))), (a3, .inr (.inl (1, 360)))]) 3 384 I [(0, .ref x)] [] 29
  refine z_aload_n 0 hG dX2_init_29 rfl rfl ?_
  refine z_sipush 360 hG dX2_init_30 (by decide) ?_
  refine k_newI (N := 360) hG hR hW (hz _ (by omega)) kw69 (Nat.le_of_ble_eq_true rfl) (Nat.le_of_ble_eq_true rfl) (Nat.le_of_ble_eq_true rfl) dX2_init_33 (fun a4 hW => ?_)
  have hW : zWf (zext F [(x, .inl (2, [none, some (some (F.2.1 + 1)), some (some (F.2.1 + 2)), some (some (F.2.1 + 3)), some none, some none, some none, some none])), (a1, .inr (.inl (0, 12))), (a2, .inr (.inl (0, 12))), (a3, .inr (.inl (1, 360))), (a4, .inr (.inl (0, 360)))]) := hW
  show zW G (zext F [(x, .inl (2, [none, some (some (F.2.1 + 1)), some (some (F.2.1 + 2)), some (some (F.2.1 + 3)), some none, some none, some none, some none])), (a1, .inr (.inl (0, 12))), (a2, .inr (.inl (0, 12))), (a3, .inr (.inl (1, 360))), (a4, .inr (.inl (0, 360)))]) 4 744 I [(0, .ref x)] [.ref a4, .ref x] 35
  refine k_putR (t := F.2.1 + 4) 0 4 hG hI hW zcl2 rfl (Nat.add_lt_add_left (Nat.le_of_ble_eq_true rfl) _) (zext_ad rfl) (by decide) (Nat.le_of_ble_eq_true rfl) kw37 rfl rfl rfl rfl dX2_init_35 (fun hW => ?_)
  have hW : zWf (zext F [(x, .inl (2, [none, some (some (F.2.1 + 1)), some (some (F.2.1 + 2)), some (some (F.2.1 + 3)), some (some (F.2.1 + 4)), some none, some none, some none])), (a1, .inr (.inl (0, 12))), (a2, .inr (.inl (0, 12))), (a3, .inr (.inl (1, 360))), (a4, .inr (.inl (0, 360)))]) := hW
  show zW G (zext F [(x, .inl (2, [none, some (some (F.2.1 + 1)), some (some (F.2.1 + 2)), some (some (F.2.1 + 3)), some (some (F.2.1 + 4)), some none, some none, some none])), (a1, .inr (.inl (0, 12))), (a2, .inr (.inl (0, 12))), (a3, .inr (.inl (1, 360))), (a4, .inr (.inl (0, 360)))]) 4 744 I [(0, .ref x)] [] 38
  refine z_aload_n 0 hG dX2_init_38 rfl rfl ?_
  refine z_sipush 360 hG dX2_init_39 (by decide) ?_
  refine k_newI (N := 360) hG hR hW (hz _ (by omega)) kw69 (Nat.le_of_ble_eq_true rfl) (Nat.le_of_ble_eq_true rfl) (Nat.le_of_ble_eq_true rfl) dX2_init_42 (fun a5 hW => ?_)
  have hW : zWf (zext F [(x, .inl (2, [none, some (some (F.2.1 + 1)), some (some (F.2.1 + 2)), some (some (F.2.1 + 3)), some (some (F.2.1 + 4)), some none, some none, some none])), (a1, .inr (.inl (0, 12))), (a2, .inr (.inl (0, 12))), (a3, .inr (.inl (1, 360))), (a4, .inr (.inl (0, 360))), (a5, .inr (.inl (0, 360)))]) := hW
  show zW G (zext F [(x, .inl (2, [none, some (some (F.2.1 + 1)), some (some (F.2.1 + 2)), some (some (F.2.1 + 3)), some (some (F.2.1 + 4)), some none, some none, some none])), (a1, .inr (.inl (0, 12))), (a2, .inr (.inl (0, 12))), (a3, .inr (.inl (1, 360))), (a4, .inr (.inl (0, 360))), (a5, .inr (.inl (0, 360)))]) 5 1104 I [(0, .ref x)] [.ref a5, .ref x] 44
  refine k_putR (t := F.2.1 + 5) 0 5 hG hI hW zcl2 rfl (Nat.add_lt_add_left (Nat.le_of_ble_eq_true rfl) _) (zext_ad rfl) (by decide) (Nat.le_of_ble_eq_true rfl) kw41 rfl rfl rfl rfl dX2_init_44 (fun hW => ?_)
  have hW : zWf (zext F [(x, .inl (2, [none, some (some (F.2.1 + 1)), some (some (F.2.1 + 2)), some (some (F.2.1 + 3)), some (some (F.2.1 + 4)), some (some (F.2.1 + 5)), some none, some none])), (a1, .inr (.inl (0, 12))), (a2, .inr (.inl (0, 12))), (a3, .inr (.inl (1, 360))), (a4, .inr (.inl (0, 360))), (a5, .inr (.inl (0, 360)))]) := hW
  show zW G (zext F [(x, .inl (2, [none, some (some (F.2.1 + 1)), some (some (F.2.1 + 2)), some (some (F.2.1 + 3)), some (some (F.2.1 + 4)), some (some (F.2.1 + 5)), some none, some none])), (a1, .inr (.inl (0, 12))), (a2, .inr (.inl (0, 12))), (a3, .inr (.inl (1, 360))), (a4, .inr (.inl (0, 360))), (a5, .inr (.inl (0, 360)))]) 5 1104 I [(0, .ref x)] [] 47
  refine z_aload_n 0 hG dX2_init_47 rfl rfl ?_
  refine z_sipush 360 hG dX2_init_48 (by decide) ?_
  refine k_newI (N := 360) hG hR hW (hz _ (by omega)) kw69 (Nat.le_of_ble_eq_true rfl) (Nat.le_of_ble_eq_true rfl) (Nat.le_of_ble_eq_true rfl) dX2_init_51 (fun a6 hW => ?_)
  have hW : zWf (zext F [(x, .inl (2, [none, some (some (F.2.1 + 1)), some (some (F.2.1 + 2)), some (some (F.2.1 + 3)), some (some (F.2.1 + 4)), some (some (F.2.1 + 5)), some none, some none])), (a1, .inr (.inl (0, 12))), (a2, .inr (.inl (0, 12))), (a3, .inr (.inl (1, 360))), (a4, .inr (.inl (0, 360))), (a5, .inr (.inl (0, 360))), (a6, .inr (.inl (0, 360)))]) := hW
  show zW G (zext F [(x, .inl (2, [none, some (some (F.2.1 + 1)), some (some (F.2.1 + 2)), some (some (F.2.1 + 3)), some (some (F.2.1 + 4)), some (some (F.2.1 + 5)), some none, some none])), (a1, .inr (.inl (0, 12))), (a2, .inr (.inl (0, 12))), (a3, .inr (.inl (1, 360))), (a4, .inr (.inl (0, 360))), (a5, .inr (.inl (0, 360))), (a6, .inr (.inl (0, 360)))]) 6 1464 I [(0, .ref x)] [.ref a6, .ref x] 53
  refine k_putR (t := F.2.1 + 6) 0 6 hG hI hW zcl2 rfl (Nat.add_lt_add_left (Nat.le_of_ble_eq_true rfl) _) (zext_ad rfl) (by decide) (Nat.le_of_ble_eq_true rfl) kw43 rfl rfl rfl rfl dX2_init_53 (fun hW => ?_)
  have hW : zWf (zext F [(x, .inl (2, [none, some (some (F.2.1 + 1)), some (some (F.2.1 + 2)), some (some (F.2.1 + 3)), some (some (F.2.1 + 4)), some (some (F.2.1 + 5)), some (some (F.2.1 + 6)), some none])), (a1, .inr (.inl (0, 12))), (a2, .inr (.inl (0, 12))), (a3, .inr (.inl (1, 360))), (a4, .inr (.inl (0, 360))), (a5, .inr (.inl (0, 360))), (a6, .inr (.inl (0, 360)))]) := hW
  show zW G (zext F [(x, .inl (2, [none, some (some (F.2.1 + 1)), some (some (F.2.1 + 2)), some (some (F.2.1 + 3)), some (some (F.2.1 + 4)), some (some (F.2.1 + 5)), some (some (F.2.1 + 6)), some none])), (a1, .inr (.inl (0, 12))), (a2, .inr (.inl (0, 12))), (a3, .inr (.inl (1, 360))), (a4, .inr (.inl (0, 360))), (a5, .inr (.inl (0, 360))), (a6, .inr (.inl (0, 360)))]) 6 1464 I [(0, .ref x)] [] 56
  refine z_aload_n 0 hG dX2_init_56 rfl rfl ?_
  refine z_sipush 360 hG dX2_init_57 (by decide) ?_
  refine k_newI (N := 360) hG hR hW (hz _ (by omega)) kw69 (Nat.le_of_ble_eq_true rfl) (Nat.le_of_ble_eq_true rfl) (Nat.le_of_ble_eq_true rfl) dX2_init_60 (fun a7 hW => ?_)
  have hW : zWf (zext F [(x, .inl (2, [none, some (some (F.2.1 + 1)), some (some (F.2.1 + 2)), some (some (F.2.1 + 3)), some (some (F.2.1 + 4)), some (some (F.2.1 + 5)), some (some (F.2.1 + 6)), some none])), (a1, .inr (.inl (0, 12))), (a2, .inr (.inl (0, 12))), (a3, .inr (.inl (1, 360))), (a4, .inr (.inl (0, 360))), (a5, .inr (.inl (0, 360))), (a6, .inr (.inl (0, 360))), (a7, .inr (.inl (0, 360)))]) := hW
  show zW G (zext F [(x, .inl (2, [none, some (some (F.2.1 + 1)), some (some (F.2.1 + 2)), some (some (F.2.1 + 3)), some (some (F.2.1 + 4)), some (some (F.2.1 + 5)), some (some (F.2.1 + 6)), some none])), (a1, .inr (.inl (0, 12))), (a2, .inr (.inl (0, 12))), (a3, .inr (.inl (1, 360))), (a4, .inr (.inl (0, 360))), (a5, .inr (.inl (0, 360))), (a6, .inr (.inl (0, 360))), (a7, .inr (.inl (0, 360)))]) 7 1824 I [(0, .ref x)] [.ref a7, .ref x] 62
  refine k_putR (t := F.2.1 + 7) 0 7 hG hI hW zcl2 rfl (Nat.add_lt_add_left (Nat.le_of_ble_eq_true rfl) _) (zext_ad rfl) (by decide) (Nat.le_of_ble_eq_true rfl) kw47 rfl rfl rfl rfl dX2_init_62 (fun hW => ?_)
  have hW : zWf (zext F [(x, .inl (2, [none, some (some (F.2.1 + 1)), some (some (F.2.1 + 2)), some (some (F.2.1 + 3)), some (some (F.2.1 + 4)), some (some (F.2.1 + 5)), some (some (F.2.1 + 6)), some (some (F.2.1 + 7))])), (a1, .inr (.inl (0, 12))), (a2, .inr (.inl (0, 12))), (a3, .inr (.inl (1, 360))), (a4, .inr (.inl (0, 360))), (a5, .inr (.inl (0, 360))), (a6, .inr (.inl (0, 360))), (a7, .inr (.inl (0, 360)))]) := hW
  show zW G (zext F [(x, .inl (2, [none, some (some (F.2.1 + 1)), some (some (F.2.1 + 2)), some (some (F.2.1 + 3)), some (some (F.2.1 + 4)), some (some (F.2.1 + 5)), some (some (F.2.1 + 6)), some (some (F.2.1 + 7))])), (a1, .inr (.inl (0, 12))), (a2, .inr (.inl (0, 12))), (a3, .inr (.inl (1, 360))), (a4, .inr (.inl (0, 360))), (a5, .inr (.inl (0, 360))), (a6, .inr (.inl (0, 360))), (a7, .inr (.inl (0, 360)))]) 7 1824 I [(0, .ref x)] [] 65
  exact hE _ _ _ _ dX2_init_65 zMore_1 ⟨⟨a1, a2, a3, a4, a5, a6, a7, rfl⟩, hW, rfl⟩
