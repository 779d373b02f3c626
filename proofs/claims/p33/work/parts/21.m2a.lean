/-- the last step by the table in the cell 11 -/
def zls (I : zStore) (b : Nat) (line slots tokens : Int) : Int := if slots = 0 then 2 else if tokens = 0 then 1 else if zpc I b (I (b + 1) (slots - 1)) ((line * 30) + (tokens - 1)) ≠ (-1) ∧ I 11 ((slots * 31) + tokens) = I 11 ((((slots * 31) + tokens) - 31) - 1) + zpc I b (I (b + 1) (slots - 1)) ((line * 30) + (tokens - 1)) then 0 else if I 11 ((slots * 31) + tokens) = I 11 (((slots * 31) + tokens) - 31) + zsk I b (I (b + 1) (slots - 1)) then 1 else 2
theorem zls_bd {I : zStore} {b : Nat} {line slots tokens : Int} : 0 ≤ zls I b line slots tokens ∧ zls I b line slots tokens ≤ 2 ∧ (slots = 0 → zls I b line slots tokens = 2) ∧ (tokens = 0 → slots ≠ 0 → zls I b line slots tokens = 1) := by
  unfold zls
  refine ⟨?_, ?_, ?_, ?_⟩ <;> (repeat' split) <;> intros <;> first | omega | contradiction
abbrev rm_X0_lastStep : Room := { frames := 2, cells := 0, slots := 0, locals := 43 }
set_option maxRecDepth 100000 in
set_option maxHeartbeats 4000000 in
theorem s_X0_lastStep {G : zCx} {F : zFr} {I : zStore} {post : Option Value → zStore → Prop}{b : Nat} {line : Int} {slots : Int} {tokens : Int} (hG : zOK G "LineLearner$Aligner" cX0_lastStep 8) (hR : zRoom G rm_X0_lastStep) (hE : zRetI G F cX0_lastStep 0 0 post) (hL : zLay F) (hr : zRg I) (hf_b : zFm F b) (h1 : 0 ≤ line ∧ line < 12) (h2 : 0 ≤ slots ∧ slots ≤ 40) (h3 : 0 ≤ tokens ∧ tokens ≤ 30) (h4 : 0 ≤ I 10 1 ∧ I 10 1 ≤ 20) (h5 : 0 ≤ I 10 2 ∧ I 10 2 ≤ 20) (h6 : ∀ _u : Unit, slots ≠ 0 → 0 ≤ I (b + 1) (slots - 1) ∧ I (b + 1) (slots - 1) < 40) (h7 : ∀ _u : Unit, slots ≠ 0 → tokens ≠ 0 → 0 ≤ I 11 ((((slots * 31) + tokens) - 31) - 1) ∧ I 11 ((((slots * 31) + tokens) - 31) - 1) ≤ 100000) (h8 : ∀ _u : Unit, slots ≠ 0 → tokens ≠ 0 → 0 ≤ I 11 (((slots * 31) + tokens) - 31) ∧ I 11 (((slots * 31) + tokens) - 31) ≤ 100000)
    (k1 : (slots ≠ 0) → (tokens ≠ 0) → ((zpc I b (I (b + 1) (slots - 1)) ((line * 30) + (tokens - 1))) = (-1)) → ((I 11 ((slots * 31) + tokens)) ≠ ((I 11 (((slots * 31) + tokens) - 31)) + (zsk I b (I (b + 1) (slots - 1))))) → post (some (.int (zI 2))) I)
    (k2 : (slots ≠ 0) → (tokens ≠ 0) → ((zpc I b (I (b + 1) (slots - 1)) ((line * 30) + (tokens - 1))) = (-1)) → ((I 11 ((slots * 31) + tokens)) = ((I 11 (((slots * 31) + tokens) - 31)) + (zsk I b (I (b + 1) (slots - 1))))) → post (some (.int (zI 1))) I)
    (k3 : (slots ≠ 0) → (tokens ≠ 0) → ((zpc I b (I (b + 1) (slots - 1)) ((line * 30) + (tokens - 1))) ≠ (-1)) → ((I 11 ((slots * 31) + tokens)) ≠ ((I 11 ((((slots * 31) + tokens) - 31) - 1)) + (zpc I b (I (b + 1) (slots - 1)) ((line * 30) + (tokens - 1))))) → ((I 11 ((slots * 31) + tokens)) ≠ ((I 11 (((slots * 31) + tokens) - 31)) + (zsk I b (I (b + 1) (slots - 1))))) → post (some (.int (zI 2))) I)
    (k4 : (slots ≠ 0) → (tokens ≠ 0) → ((zpc I b (I (b + 1) (slots - 1)) ((line * 30) + (tokens - 1))) ≠ (-1)) → ((I 11 ((slots * 31) + tokens)) ≠ ((I 11 ((((slots * 31) + tokens) - 31) - 1)) + (zpc I b (I (b + 1) (slots - 1)) ((line * 30) + (tokens - 1))))) → ((I 11 ((slots * 31) + tokens)) = ((I 11 (((slots * 31) + tokens) - 31)) + (zsk I b (I (b + 1) (slots - 1))))) → post (some (.int (zI 1))) I)
    (k5 : (slots ≠ 0) → (tokens ≠ 0) → ((zpc I b (I (b + 1) (slots - 1)) ((line * 30) + (tokens - 1))) ≠ (-1)) → ((I 11 ((slots * 31) + tokens)) = ((I 11 ((((slots * 31) + tokens) - 31) - 1)) + (zpc I b (I (b + 1) (slots - 1)) ((line * 30) + (tokens - 1))))) → post (some (.int (zI 0))) I)
    (k6 : (slots ≠ 0) → (tokens = 0) → post (some (.int (zI 1))) I)
    (k7 : (slots = 0) → post (some (.int (zI 2))) I) :
    zW G F 0 0 I [(0, .ref (F.1 10)), (1, .ref (F.1 b)), (2, .int (zI line)), (3, .int (zI slots)), (4, .int (zI tokens))] [] 0 := by
  have hfb_b := hf_b.1
  refine z_iload_n 3 hG dX0_lastStep_0 rfl rfl ?_
  refine z_if_ne (tgt := 6) hG dX0_lastStep_1 (by decide) (by omega) (fun c1 => ?_) (fun c1 => ?_)
  · skip
    refine z_iload 4 hG dX0_lastStep_6 rfl ?_
    refine z_if_ne (tgt := 13) hG dX0_lastStep_8 (by decide) (by omega) (fun c8 => ?_) (fun c8 => ?_)
    · skip
      have g6 := h6 () c1
      have g7 := h7 () c1 c8
      have g8 := h8 () c1 c8
      refine z_iload_n 3 hG dX0_lastStep_13 rfl rfl ?_
      refine z_bipush 31 hG dX0_lastStep_14 (by decide) ?_
      refine z_imul hG dX0_lastStep_16 ?_
      refine z_iload 4 hG dX0_lastStep_17 rfl ?_
      refine z_iadd hG dX0_lastStep_19 ?_
      refine z_istore (lv' := [(5, .int (zI ((slots * 31) + tokens))), (0, .ref (F.1 10)), (1, .ref (F.1 b)), (2, .int (zI line)), (3, .int (zI slots)), (4, .int (zI tokens))]) hG dX0_lastStep_20 (by decide) rfl ?_
      refine z_aload_n 2 hG dX0_lastStep_22 rfl rfl ?_
      refine z_getRN (t := (b + 1)) hG zcl1 (zfN0 hf_b) (zf0 hf_b) 2 (by decide) rfl kw125 dX0_lastStep_23 ?_
      refine z_iload_n 4 hG dX0_lastStep_26 rfl rfl ?_
      refine z_iconst 1 hG dX0_lastStep_27 ?_
      refine z_isub hG dX0_lastStep_28 ?_
      refine z_iald (v := I (b + 1) (slots - 1)) hG (zfN1 hf_b) (zf1 hf_b) (by decide) (by omega) rfl dX0_lastStep_29 ?_
      refine z_istore (lv' := [(6, .int (zI (I (b + 1) (slots - 1)))), (5, .int (zI ((slots * 31) + tokens))), (0, .ref (F.1 10)), (1, .ref (F.1 b)), (2, .int (zI line)), (3, .int (zI slots)), (4, .int (zI tokens))]) hG dX0_lastStep_30 (by decide) rfl ?_
      refine z_aload_n 2 hG dX0_lastStep_32 rfl rfl ?_
      refine z_aload_n 3 hG dX0_lastStep_33 rfl rfl ?_
      refine z_iload 0 hG dX0_lastStep_34 rfl ?_
      refine z_iload_n 4 hG dX0_lastStep_36 rfl rfl ?_
      refine z_iload 6 hG dX0_lastStep_37 rfl ?_
      refine z_iconst 1 hG dX0_lastStep_39 ?_
      refine z_isub hG dX0_lastStep_40 ?_
      refine z_callSN [.int (zI line), .int (zI (tokens - 1))] hG hR (c_X3_placeOf hr) hd_X3_placeOf kw228 kw229 (by decide) (by decide) (by decide) (by decide) rfl rfl (Nat.le_of_ble_eq_true rfl) dX0_lastStep_41 (fun r I' hp => ?_)
      rw [hp.1, hp.2]
      show zW G F 0 0 I [(6, .int (zI (I (b + 1) (slots - 1)))), (5, .int (zI ((slots * 31) + tokens))), (0, .ref (F.1 10)), (1, .ref (F.1 b)), (2, .int (zI line)), (3, .int (zI slots)), (4, .int (zI tokens))] [.int (zI ((line * 30) + (tokens - 1))), .int (zI (I (b + 1) (slots - 1))), .ref (F.1 b), .ref (F.1 10)] 44
      refine z_callV [.ref (F.1 b), .int (zI (I (b + 1) (slots - 1))), .int (zI ((line * 30) + (tokens - 1)))] hG hR (c_X0_pairCost hL hr hf_b (by omega) (by omega) (by omega)) hd_X0_pairCost kw231 kw233 kp2 rfl (zlt hL (by decide)) (zl10 hL) (by decide) (by decide) (by decide) (by decide) rfl rfl (Nat.le_of_ble_eq_true rfl) dX0_lastStep_44 (fun r I' hp => ?_)
      rw [hp.1, hp.2]
      have ha44_0 : -1 ≤ (zpc I b (I (b + 1) (slots - 1)) ((line * 30) + (tokens - 1))) ∧ (zpc I b (I (b + 1) (slots - 1)) ((line * 30) + (tokens - 1))) ≤ 20 := zpc_bd (by omega)
      show zW G F 0 0 I [(6, .int (zI (I (b + 1) (slots - 1)))), (5, .int (zI ((slots * 31) + tokens))), (0, .ref (F.1 10)), (1, .ref (F.1 b)), (2, .int (zI line)), (3, .int (zI slots)), (4, .int (zI tokens))] [.int (zI (zpc I b (I (b + 1) (slots - 1)) ((line * 30) + (tokens - 1))))] 47
      refine z_istore (lv' := [(7, .int (zI (zpc I b (I (b + 1) (slots - 1)) ((line * 30) + (tokens - 1))))), (6, .int (zI (I (b + 1) (slots - 1)))), (5, .int (zI ((slots * 31) + tokens))), (0, .ref (F.1 10)), (1, .ref (F.1 b)), (2, .int (zI line)), (3, .int (zI slots)), (4, .int (zI tokens))]) hG dX0_lastStep_47 (by decide) rfl ?_
      refine z_iload 0 hG dX0_lastStep_49 rfl ?_
      refine z_iconst (-1) hG dX0_lastStep_51 ?_
      refine z_icmp_eq (tgt := 82) hG dX0_lastStep_52 (by decide) (by omega) (by decide) (fun c52 => ?_) (fun c52 => ?_)
      · skip
        refine z_aload_n 3 hG dX0_lastStep_82 rfl rfl ?_
        refine z_getR (t := 11) hG zcl0 (zlt hL (by decide)) (zl10 hL) 4 (by decide) rfl kw83 dX0_lastStep_83 ?_
        refine z_iload 2 hG dX0_lastStep_86 rfl ?_
        refine z_iald (v := I 11 ((slots * 31) + tokens)) hG (zlt hL (by decide)) (zl11 hL) (by decide) (by omega) rfl dX0_lastStep_88 ?_
        refine z_aload_n 3 hG dX0_lastStep_89 rfl rfl ?_
        refine z_getR (t := 11) hG zcl0 (zlt hL (by decide)) (zl10 hL) 4 (by decide) rfl kw83 dX0_lastStep_90 ?_
        refine z_iload 2 hG dX0_lastStep_93 rfl ?_
        refine z_bipush 31 hG dX0_lastStep_95 (by decide) ?_
        refine z_isub hG dX0_lastStep_97 ?_
        refine z_iald (v := I 11 (((slots * 31) + tokens) - 31)) hG (zlt hL (by decide)) (zl11 hL) (by decide) (by omega) rfl dX0_lastStep_98 ?_
        refine z_aload_n 3 hG dX0_lastStep_99 rfl rfl ?_
        refine z_aload_n 4 hG dX0_lastStep_100 rfl rfl ?_
        refine z_iload 1 hG dX0_lastStep_101 rfl ?_
        refine z_callV [.ref (F.1 b), .int (zI (I (b + 1) (slots - 1)))] hG hR (c_X0_skipCost hL hr hf_b (by omega) (by omega)) hd_X0_skipCost kw217 kw219 kp1 rfl (zlt hL (by decide)) (zl10 hL) (by decide) (by decide) (by decide) (by decide) rfl rfl (Nat.le_of_ble_eq_true rfl) dX0_lastStep_103 (fun r I' hp => ?_)
        rw [hp.1, hp.2]
        have ha103_0 : 0 ≤ (zsk I b (I (b + 1) (slots - 1))) ∧ (zsk I b (I (b + 1) (slots - 1))) ≤ 20 := zsk_bd (by omega)
        show zW G F 0 0 I [(7, .int (zI (zpc I b (I (b + 1) (slots - 1)) ((line * 30) + (tokens - 1))))), (6, .int (zI (I (b + 1) (slots - 1)))), (5, .int (zI ((slots * 31) + tokens))), (0, .ref (F.1 10)), (1, .ref (F.1 b)), (2, .int (zI line)), (3, .int (zI slots)), (4, .int (zI tokens))] [.int (zI (zsk I b (I (b + 1) (slots - 1)))), .int (zI (I 11 (((slots * 31) + tokens) - 31))), .int (zI (I 11 ((slots * 31) + tokens)))] 106
        refine z_iadd hG dX0_lastStep_106 ?_
        refine z_icmp_ne (tgt := 114) hG dX0_lastStep_107 (by decide) (hr _ _) (by omega) (fun c107 => ?_) (fun c107 => ?_)
        · skip
          refine z_iconst 2 hG dX0_lastStep_114 ?_
          exact hE _ _ _ _ dX0_lastStep_115 (k1 c1 c8 c52 c107)
        · skip
          refine z_iconst 1 hG dX0_lastStep_110 ?_
          refine z_goto (tgt := 115) hG dX0_lastStep_111 (by decide) ?_
          exact hE _ _ _ _ dX0_lastStep_115 (k2 c1 c8 c52 c107)
      · skip
        refine z_aload_n 3 hG dX0_lastStep_55 rfl rfl ?_
        refine z_getR (t := 11) hG zcl0 (zlt hL (by decide)) (zl10 hL) 4 (by decide) rfl kw83 dX0_lastStep_56 ?_
        refine z_iload 2 hG dX0_lastStep_59 rfl ?_
        refine z_iald (v := I 11 ((slots * 31) + tokens)) hG (zlt hL (by decide)) (zl11 hL) (by decide) (by omega) rfl dX0_lastStep_61 ?_
        refine z_aload_n 3 hG dX0_lastStep_62 rfl rfl ?_
        refine z_getR (t := 11) hG zcl0 (zlt hL (by decide)) (zl10 hL) 4 (by decide) rfl kw83 dX0_lastStep_63 ?_
        refine z_iload 2 hG dX0_lastStep_66 rfl ?_
        refine z_bipush 31 hG dX0_lastStep_68 (by decide) ?_
        refine z_isub hG dX0_lastStep_70 ?_
        refine z_iconst 1 hG dX0_lastStep_71 ?_
        refine z_isub hG dX0_lastStep_72 ?_
        refine z_iald (v := I 11 ((((slots * 31) + tokens) - 31) - 1)) hG (zlt hL (by decide)) (zl11 hL) (by decide) (by omega) rfl dX0_lastStep_73 ?_
        refine z_iload 0 hG dX0_lastStep_74 rfl ?_
        refine z_iadd hG dX0_lastStep_76 ?_
        refine z_icmp_ne (tgt := 82) hG dX0_lastStep_77 (by decide) (hr _ _) (by omega) (fun c77 => ?_) (fun c77 => ?_)
        · skip
          refine z_aload_n 3 hG dX0_lastStep_82 rfl rfl ?_
          refine z_getR (t := 11) hG zcl0 (zlt hL (by decide)) (zl10 hL) 4 (by decide) rfl kw83 dX0_lastStep_83 ?_
          refine z_iload 2 hG dX0_lastStep_86 rfl ?_
          refine z_iald (v := I 11 ((slots * 31) + tokens)) hG (zlt hL (by decide)) (zl11 hL) (by decide) (by omega) rfl dX0_lastStep_88 ?_
          refine z_aload_n 3 hG dX0_lastStep_89 rfl rfl ?_
          refine z_getR (t := 11) hG zcl0 (zlt hL (by decide)) (zl10 hL) 4 (by decide) rfl kw83 dX0_lastStep_90 ?_
          refine z_iload 2 hG dX0_lastStep_93 rfl ?_
          refine z_bipush 31 hG dX0_lastStep_95 (by decide) ?_
          refine z_isub hG dX0_lastStep_97 ?_
          refine z_iald (v := I 11 (((slots * 31) + tokens) - 31)) hG (zlt hL (by decide)) (zl11 hL) (by decide) (by omega) rfl dX0_lastStep_98 ?_
          refine z_aload_n 3 hG dX0_lastStep_99 rfl rfl ?_
          refine z_aload_n 4 hG dX0_lastStep_100 rfl rfl ?_
          refine z_iload 1 hG dX0_lastStep_101 rfl ?_
          refine z_callV [.ref (F.1 b), .int (zI (I (b + 1) (slots - 1)))] hG hR (c_X0_skipCost hL hr hf_b (by omega) (by omega)) hd_X0_skipCost kw217 kw219 kp1 rfl (zlt hL (by decide)) (zl10 hL) (by decide) (by decide) (by decide) (by decide) rfl rfl (Nat.le_of_ble_eq_true rfl) dX0_lastStep_103 (fun r I' hp => ?_)
          rw [hp.1, hp.2]
          have ha103_0 : 0 ≤ (zsk I b (I (b + 1) (slots - 1))) ∧ (zsk I b (I (b + 1) (slots - 1))) ≤ 20 := zsk_bd (by omega)
          show zW G F 0 0 I [(7, .int (zI (zpc I b (I (b + 1) (slots - 1)) ((line * 30) + (tokens - 1))))), (6, .int (zI (I (b + 1) (slots - 1)))), (5, .int (zI ((slots * 31) + tokens))), (0, .ref (F.1 10)), (1, .ref (F.1 b)), (2, .int (zI line)), (3, .int (zI slots)), (4, .int (zI tokens))] [.int (zI (zsk I b (I (b + 1) (slots - 1)))), .int (zI (I 11 (((slots * 31) + tokens) - 31))), .int (zI (I 11 ((slots * 31) + tokens)))] 106
          refine z_iadd hG dX0_lastStep_106 ?_
          refine z_icmp_ne (tgt := 114) hG dX0_lastStep_107 (by decide) (hr _ _) (by omega) (fun c107 => ?_) (fun c107 => ?_)
          · skip
            refine z_iconst 2 hG dX0_lastStep_114 ?_
            exact hE _ _ _ _ dX0_lastStep_115 (k3 c1 c8 c52 c77 c107)
          · skip
            refine z_iconst 1 hG dX0_lastStep_110 ?_
            refine z_goto (tgt := 115) hG dX0_lastStep_111 (by decide) ?_
            exact hE _ _ _ _ dX0_lastStep_115 (k4 c1 c8 c52 c77 c107)
        · skip
          refine z_iconst 0 hG dX0_lastStep_80 ?_
          exact hE _ _ _ _ dX0_lastStep_81 (k5 c1 c8 c52 c77)
    · skip
      refine z_iconst 1 hG dX0_lastStep_11 ?_
      exact hE _ _ _ _ dX0_lastStep_12 (k6 c1 c8)
  · skip
    refine z_iconst 2 hG dX0_lastStep_4 ?_
    exact hE _ _ _ _ dX0_lastStep_5 (k7 c1)

theorem c_X0_lastStep {F : zFr} {I : zStore} {b : Nat} {line : Int} {slots : Int} {tokens : Int}  (hL : zLay F) (hr : zRg I) (hf_b : zFm F b) (h1 : 0 ≤ line ∧ line < 12) (h2 : 0 ≤ slots ∧ slots ≤ 40) (h3 : 0 ≤ tokens ∧ tokens ≤ 30) (h4 : 0 ≤ I 10 1 ∧ I 10 1 ≤ 20) (h5 : 0 ≤ I 10 2 ∧ I 10 2 ≤ 20) (h6 : ∀ _u : Unit, slots ≠ 0 → 0 ≤ I (b + 1) (slots - 1) ∧ I (b + 1) (slots - 1) < 40) (h7 : ∀ _u : Unit, slots ≠ 0 → tokens ≠ 0 → 0 ≤ I 11 ((((slots * 31) + tokens) - 31) - 1) ∧ I 11 ((((slots * 31) + tokens) - 31) - 1) ≤ 100000) (h8 : ∀ _u : Unit, slots ≠ 0 → tokens ≠ 0 → 0 ≤ I 11 (((slots * 31) + tokens) - 31) ∧ I 11 (((slots * 31) + tokens) - 31) ≤ 100000) : ∀ (l : Launch) (D : va_G) (cs : Nat → ClassId), l.stackTraces = false → zMt l yX0_lastStep cX0_lastStep 8 (some .int) rm_X0_lastStep D cs F I [.ref (F.1 10), .ref (F.1 b), .int (zI line), .int (zI slots), .int (zI tokens)] (fun r I' => r = some (.int (zI (zls I b line slots tokens))) ∧ I' = I) :=
  fun l D cs hst => zMt.ofI hst (by decide +kernel) (Nat.le_of_ble_eq_true rfl) fun G hG hR hE => s_X0_lastStep hG hR hE hL hr hf_b h1 h2 h3 h4 h5 h6 h7 h8
    (by intros; refine ⟨?_, rfl⟩; simp only [zls]; (repeat' split) <;> first | rfl | (exfalso; omega))
    (by intros; refine ⟨?_, rfl⟩; simp only [zls]; (repeat' split) <;> first | rfl | (exfalso; omega))
    (by intros; refine ⟨?_, rfl⟩; simp only [zls]; (repeat' split) <;> first | rfl | (exfalso; omega))
    (by intros; refine ⟨?_, rfl⟩; simp only [zls]; (repeat' split) <;> first | rfl | (exfalso; omega))
    (by intros; refine ⟨?_, rfl⟩; simp only [zls]; (repeat' split) <;> first | rfl | (exfalso; omega))
    (by intros; refine ⟨?_, rfl⟩; simp only [zls]; (repeat' split) <;> first | rfl | (exfalso; omega))
    (by intros; refine ⟨?_, rfl⟩; simp only [zls]; (repeat' split) <;> first | rfl | (exfalso; omega))
