theorem zup_sm {I : zStore} {v : Int} {f line : Int} {n m : Nat} (hA : zmA I f line n m) : zmA (zup I 110 0 v) f line n m := hA
theorem zmC_t {I : zStore} {v : Int} {f line : Int} : zmC (zup I 110 0 v) f line = zmC I f line := rfl
abbrev rm_X4_costWith : Room := { frames := 6, cells := 0, slots := 0, locals := 144 }
set_option maxRecDepth 100000 in
set_option maxHeartbeats 4000000 in
theorem s_X4_costWith_0 {G : zCx} {F : zFr} {I : zStore} {post : Option Value → zStore → Prop}{line : Int} {J16 : zStore} {v16 : Int} (hG : zOK G "LineLearnerModel" cX4_costWith 2) (hR : zRoom G rm_X4_costWith) (hE : zRetI G F cX4_costWith 0 0 post) (hL : zLayM F) (hr : zRg I) (hl : -2147483648 ≤ line ∧ line < 2147483648)
    (k1 : (¬ (0 ≤ line ∧ line < I 110 3)) → post (some (.int (zI 0))) (zup (zup I 110 0 0) 110 0 1))
    (kc16 : (0 ≤ line ∧ line < I 110 3) → ∀ (l : Launch) (D : va_G) (cs : Nat → ClassId), l.stackTraces = false → zMt l yX4_align cX4_align 8 (some .int) rm_X4_align D cs F (zup I 110 0 0) [.ref (F.1 110), .int (zI 0), .int (zI line)] (fun r I' => r = some (.int (zI v16)) ∧ I' = J16))
    (hrJ16 : zRg J16)
    (hv16 : -2147483648 ≤ v16 ∧ v16 < 2147483648)
    (k5 : (0 ≤ line ∧ line < I 110 3) → post (some (.int (zI v16))) J16) :
    zW G F 0 0 I [(0, .ref (F.1 110)), (1, .int (zI line))] [] 0 := by
  refine z_aload_n 0 hG dX4_costWith_0 rfl rfl ?_
  refine z_iconst 0 hG dX4_costWith_1 ?_
  refine z_putI hG zcl4 (zltM hL (by decide)) (zl110 hL) 0 (by decide) (ki := 0) rfl rfl kw677 rfl rfl dX4_costWith_2 ?_
  refine z_aload_n 0 hG dX4_costWith_5 rfl rfl ?_
  refine z_iload_n 1 hG dX4_costWith_6 rfl rfl ?_
  refine z_callV [.int (zI line)] hG hR (c_X4_isLine hL (zRg_up hr (by decide)) (by first | assumption | omega | ((try simp only [zup_k, zup_i, zup_at, ne_eq, not_false_eq_true, Nat.reduceEqDiff]); simp only [zup_at]; omega))) hd_X4_isLine kw787 kw789 kp24 rfl (zltM hL (by decide)) (zl110 hL) (by decide) (by decide) (by decide) (by decide) rfl rfl (Nat.le_of_ble_eq_true rfl) dX4_costWith_7 (fun r I' hp => ?_)
  rw [hp.1, hp.2]
  show zW G F 0 0 (zup I 110 0 0) [(0, .ref (F.1 110)), (1, .int (zI line))] [.int (zI (if 0 ≤ line ∧ line < I 110 3 then 1 else 0))] 10
  refine z_if_eq (tgt := 22) hG dX4_costWith_10 (by decide) (by omega) (fun c10 => ?_) (fun c10 => ?_)
  · skip
    have c10b := zif_n c10
    refine z_aload_n 0 hG dX4_costWith_22 rfl rfl ?_
    refine z_iconst 1 hG dX4_costWith_23 ?_
    refine z_callV [.int (zI 1)] hG hR (c_X4_fail hL (zRg_up hr (by decide)) (by first | assumption | omega | ((try simp only [zup_k, zup_i, zup_at, ne_eq, not_false_eq_true, Nat.reduceEqDiff]); simp only [zup_at]; omega))) hd_X4_fail kw772 kw774 kp23 rfl (zltM hL (by decide)) (zl110 hL) (by decide) (by decide) (by decide) (by decide) rfl rfl (Nat.le_of_ble_eq_true rfl) dX4_costWith_24 (fun r I' hp => ?_)
    rw [hp.1, hp.2]
    show zW G F 0 0 (zup (zup I 110 0 0) 110 0 1) [(0, .ref (F.1 110)), (1, .int (zI line))] [.int (zI 0)] 27
    exact hE _ _ _ _ dX4_costWith_27 (k1 c10b)
  · skip
    have c10b := zif_y c10
    refine z_aload_n 0 hG dX4_costWith_13 rfl rfl ?_
    refine z_iconst 0 hG dX4_costWith_14 ?_
    refine z_iload_n 1 hG dX4_costWith_15 rfl rfl ?_
    refine z_callV [.int (zI 0), .int (zI line)] hG hR (kc16 c10b) hd_X4_align kw821 kw823 kp27 rfl (zltM hL (by decide)) (zl110 hL) (by decide) (by decide) (by decide) (by decide) rfl rfl (Nat.le_of_ble_eq_true rfl) dX4_costWith_16 (fun r I' hp => ?_)
    rw [hp.1, hp.2]
    show zW G F 0 0 J16 [(0, .ref (F.1 110)), (1, .int (zI line))] [.int (zI v16)] 19
    refine z_goto (tgt := 27) hG dX4_costWith_19 (by decide) ?_
    exact hE _ _ _ _ dX4_costWith_27 (k5 c10b)

theorem c_X4_costWith {F : zFr} {I : zStore} {line : Int} {n m : Nat} (hL : zLayM F) (hr : zRg I) (hl : -2147483648 ≤ line ∧ line < 2147483648) (hA : 0 ≤ line → line < I 110 3 → zmA I 0 line n m) : ∀ (l : Launch) (D : va_G) (cs : Nat → ClassId), l.stackTraces = false → zMt l yX4_costWith cX4_costWith 2 (some .int) rm_X4_costWith D cs F I [.ref (F.1 110), .int (zI line)] (fun r I' => r = some (.int (zI (if 0 ≤ line ∧ line < I 110 3 then zmC I 0 line n m else 0))) ∧ I' = (if 0 ≤ line ∧ line < I 110 3 then ztab (zup I 110 0 0) 124 m n (zmC I 0 line) else zup I 110 0 1)) := by
  intro l D cs hst
  refine zMt.ofI hst (by decide +kernel) (Nat.le_of_ble_eq_true rfl) fun G hG hR hE => ?_
  by_cases h : ¬ (0 ≤ line ∧ line < I 110 3)
  · rw [if_neg h, if_neg h] at hE
    exact s_X4_costWith_0 (J16 := I) (v16 := 0) hG hR hE hL hr hl (fun _ => ⟨rfl, zup_up _ _ _ _ _⟩) (fun q => absurd q h) hr (by decide) (fun q => absurd q h)
  · have h := Decidable.not_not.mp h
    have hA2 := hA h.1 h.2
    have hb := zmC_bd hA2 n m
    have hn := hA2.2.2.1
    have hm := hA2.2.2.2.1
    rw [if_pos h, if_pos h] at hE
    have hrt : zRg (ztab (zup I 110 0 0) 124 m n (zmC I 0 line)) := zRg_tab (zRg_up hr (by decide)) fun r t _ _ => by have := zmC_bd hA2 r t; omega
    exact s_X4_costWith_0 (J16 := ztab (zup I 110 0 0) 124 m n (zmC I 0 line)) (v16 := zmC I 0 line n m) hG hR hE hL hr hl (fun q => absurd h q) (fun _ => c_X4_align hL (zRg_up hr (by decide)) (zup_sm hA2)) hrt (by omega) (fun _ => ⟨rfl, rfl⟩)
abbrev rm_X4_strangest : Room := { frames := 6, cells := 0, slots := 0, locals := 144 }
set_option maxRecDepth 100000 in
set_option maxHeartbeats 4000000 in
theorem s_X4_strangest_0 {G : zCx} {F : zFr} {I : zStore} {post : Option Value → zStore → Prop} (hG : zOK G "LineLearnerModel" cX4_strangest 5) (hR : zRoom G rm_X4_strangest) (hE : zRetI G F cX4_strangest 0 0 post) (hL : zLayM F) (hr : zRg I)
    (k1 : zW G F 0 0 (zup I 110 0 0) [(0, .ref (F.1 110)), (1, .int (zI (-1))), (2, .int (zI (-1))), (3, .int (zI 0))] [] 11) :
    zW G F 0 0 I [(0, .ref (F.1 110))] [] 0 := by
  refine z_aload_n 0 hG dX4_strangest_0 rfl rfl ?_
  refine z_iconst 0 hG dX4_strangest_1 ?_
  refine z_putI hG zcl4 (zltM hL (by decide)) (zl110 hL) 0 (by decide) (ki := 0) rfl rfl kw677 rfl rfl dX4_strangest_2 ?_
  refine z_iconst (-1) hG dX4_strangest_5 ?_
  refine z_istore_n (lv' := [(1, .int (zI (-1))), (0, .ref (F.1 110))]) hG dX4_strangest_6 rfl (by decide) rfl ?_
  refine z_iconst (-1) hG dX4_strangest_7 ?_
  refine z_istore_n (lv' := [(2, .int (zI (-1))), (1, .int (zI (-1))), (0, .ref (F.1 110))]) hG dX4_strangest_8 rfl (by decide) rfl ?_
  refine z_iconst 0 hG dX4_strangest_9 ?_
  refine z_istore_n (lv' := [(3, .int (zI 0)), (2, .int (zI (-1))), (1, .int (zI (-1))), (0, .ref (F.1 110))]) hG dX4_strangest_10 rfl (by decide) rfl ?_
  refine z_perm (lv' := [(0, .ref (F.1 110)), (1, .int (zI (-1))), (2, .int (zI (-1))), (3, .int (zI 0))]) [3, 2, 1, 0] rfl ?_
  exact k1

set_option maxRecDepth 100000 in
set_option maxHeartbeats 4000000 in
theorem s_X4_strangest_11 {G : zCx} {F : zFr} {I : zStore} {post : Option Value → zStore → Prop}{best most i : Int} {J22 : zStore} {v22 : Int} (hG : zOK G "LineLearnerModel" cX4_strangest 5) (hR : zRoom G rm_X4_strangest) (hE : zRetI G F cX4_strangest 0 0 post) (hL : zLayM F) (hr : zRg I) (h1 : 0 ≤ i ∧ i ≤ 12) (h2 : -2147483648 ≤ most ∧ most < 2147483648)
    (k1 : ((I 110 3) ≤ i) → post (some (.int (zI best))) I)
    (kc22 : (i < (I 110 3)) → ∀ (l : Launch) (D : va_G) (cs : Nat → ClassId), l.stackTraces = false → zMt l yX4_align cX4_align 8 (some .int) rm_X4_align D cs F I [.ref (F.1 110), .int (zI 0), .int (zI i)] (fun r I' => r = some (.int (zI v22)) ∧ I' = J22))
    (hrJ22 : zRg J22)
    (hv22 : -2147483648 ≤ v22 ∧ v22 < 2147483648)
    (k5 : (i < (I 110 3)) → (most < v22) → zW G F 0 0 J22 [(0, .ref (F.1 110)), (1, .int (zI i)), (2, .int (zI v22)), (3, .int (zI (i + 1)))] [] 11)
    (k6 : (i < (I 110 3)) → (v22 ≤ most) → zW G F 0 0 J22 [(0, .ref (F.1 110)), (1, .int (zI best)), (2, .int (zI most)), (3, .int (zI (i + 1)))] [] 11) :
    zW G F 0 0 I [(0, .ref (F.1 110)), (1, .int (zI best)), (2, .int (zI most)), (3, .int (zI i))] [] 11 := by
  refine z_iload_n 3 hG dX4_strangest_11 rfl rfl ?_
  refine z_aload_n 0 hG dX4_strangest_12 rfl rfl ?_
  refine z_getI (v := I 110 3) hG zcl4 (zltM hL (by decide)) (zl110 hL) 3 (by decide) rfl rfl rfl kw680 dX4_strangest_13 ?_
  refine z_icmp_ge (tgt := 47) hG dX4_strangest_16 (by decide) (by omega) (hr _ _) (fun c16 => ?_) (fun c16 => ?_)
  · skip
    refine z_iload_n 1 hG dX4_strangest_47 rfl rfl ?_
    exact hE _ _ _ _ dX4_strangest_48 (k1 c16)
  · skip
    refine z_aload_n 0 hG dX4_strangest_19 rfl rfl ?_
    refine z_iconst 0 hG dX4_strangest_20 ?_
    refine z_iload_n 3 hG dX4_strangest_21 rfl rfl ?_
    refine z_callV [.int (zI 0), .int (zI i)] hG hR (kc22 c16) hd_X4_align kw821 kw823 kp27 rfl (zltM hL (by decide)) (zl110 hL) (by decide) (by decide) (by decide) (by decide) rfl rfl (Nat.le_of_ble_eq_true rfl) dX4_strangest_22 (fun r I' hp => ?_)
    rw [hp.1, hp.2]
    show zW G F 0 0 J22 [(0, .ref (F.1 110)), (1, .int (zI best)), (2, .int (zI most)), (3, .int (zI i))] [.int (zI v22)] 25
    refine z_istore (lv' := [(4, .int (zI v22)), (0, .ref (F.1 110)), (1, .int (zI best)), (2, .int (zI most)), (3, .int (zI i))]) hG dX4_strangest_25 (by decide) rfl ?_
    refine z_iload 0 hG dX4_strangest_27 rfl ?_
    refine z_iload_n 3 hG dX4_strangest_29 rfl rfl ?_
    refine z_icmp_gt (tgt := 36) hG dX4_strangest_30 (by decide) (by omega) (by omega) (fun c30 => ?_) (fun c30 => ?_)
    · skip
      refine z_iload_n 4 hG dX4_strangest_36 rfl rfl ?_
      refine z_istore_n (lv' := [(1, .int (zI i)), (4, .int (zI v22)), (0, .ref (F.1 110)), (2, .int (zI most)), (3, .int (zI i))]) hG dX4_strangest_37 rfl (by decide) rfl ?_
      refine z_iload 1 hG dX4_strangest_38 rfl ?_
      refine z_istore_n (lv' := [(2, .int (zI v22)), (1, .int (zI i)), (4, .int (zI v22)), (0, .ref (F.1 110)), (3, .int (zI i))]) hG dX4_strangest_40 rfl (by decide) rfl ?_
      refine z_iinc (lv' := [(3, .int (zI (i + 1))), (2, .int (zI v22)), (1, .int (zI i)), (4, .int (zI v22)), (0, .ref (F.1 110))]) 4 hG dX4_strangest_41 rfl (by decide) rfl ?_
      refine z_goto (tgt := 11) hG dX4_strangest_44 (by decide) ?_
      refine z_perm (lv' := [(0, .ref (F.1 110)), (1, .int (zI i)), (2, .int (zI v22)), (3, .int (zI (i + 1)))]) [4, 2, 1, 0] rfl ?_
      exact k5 c16 c30
    · skip
      refine z_goto (tgt := 41) hG dX4_strangest_33 (by decide) ?_
      refine z_iinc (lv' := [(3, .int (zI (i + 1))), (4, .int (zI v22)), (0, .ref (F.1 110)), (1, .int (zI best)), (2, .int (zI most))]) 4 hG dX4_strangest_41 rfl (by decide) rfl ?_
      refine z_goto (tgt := 11) hG dX4_strangest_44 (by decide) ?_
      refine z_perm (lv' := [(0, .ref (F.1 110)), (1, .int (zI best)), (2, .int (zI most)), (3, .int (zI (i + 1)))]) [2, 3, 4, 0] rfl ?_
      exact k6 c16 c30

set_option maxHeartbeats 4000000 in
theorem c_X4_strangest {F : zFr} {I : zStore} {N n : Nat} {m : Nat → Nat} (hL : zLayM F) (hr : zRg I) (hN : I 110 3 = N) (hN2 : N ≤ 12) (hA : ∀ line : Nat, line < N → zmA I 0 line n (m line)) : ∀ (l : Launch) (D : va_G) (cs : Nat → ClassId), l.stackTraces = false → zMt l yX4_strangest cX4_strangest 5 (some .int) rm_X4_strangest D cs F I [.ref (F.1 110)] (fun r I' => r = some (.int (zI (zsg (fun line => zmC I 0 line n (m line)) N).1)) ∧ zSm (zup I 110 0 0) I' ∧ zRg I') := by
  intro l D cs hst
  refine zMt.ofI hst (by decide +kernel) (Nat.le_of_ble_eq_true rfl) fun G hG hR hE => ?_
  refine s_X4_strangest_0 hG hR hE hL hr ?_
  generalize hC : (fun line : Nat => zmC I 0 line n (m line)) = C at hE
  have hCe : ∀ i : Nat, zmC I 0 i n (m i) = C i := fun i => by rw [← hC]
  have hCb : ∀ i : Nat, i < N → -1 ≤ C i ∧ C i ≤ 1400 := fun i hi => by
    have h1 := zmC_bd (hA i hi) n (m i)
    have h2 := (hA i hi).2.2.1
    have h3 := (hA i hi).2.2.2.1
    rw [hCe] at h1
    omega
  have key : ∀ (d i : Nat) (J : zStore), i + d = N → zSm (zup I 110 0 0) J → zRg J → zW G F 0 0 J [(0, .ref (F.1 110)), (1, .int (zI (zsg C i).1)), (2, .int (zI (zsg C i).2)), (3, .int (zI i))] [] 11 := by
    intro d
    induction d with
    | zero =>
      intro i J hi hJ hrJ
      have e : i = N := by omega
      subst e
      have hb := zsg_bd (C := C) (b := 1400) (by omega) i hCb
      have e2 : J 110 3 = I 110 3 := hJ.f (by decide)
      exact s_X4_strangest_11 (J22 := J) (v22 := 0) hG hR hE hL hrJ (by omega) (by omega) (fun _ => ⟨rfl, hJ, hrJ⟩) (fun h => absurd h (by omega)) hrJ (by omega) (fun h => absurd h (by omega)) (fun h => absurd h (by omega))
    | succ d ih =>
      intro i J hi hJ hrJ
      have hAi := zmA_s hJ (zup_sm (v := 0) (hA i (by omega)))
      have hb := zsg_bd (C := C) (b := 1400) (by omega) i fun x hx => hCb x (by omega)
      have hbi := hCb i (by omega)
      have e2 : J 110 3 = I 110 3 := hJ.f (by decide)
      have e3 : zmC J 0 i = zmC I 0 i := (zmC_s hJ).trans zmC_t
      have hn := hAi.2.2.1
      have hm := hAi.2.2.2.1
      have hrt : zRg (ztab J 124 (m i) n (zmC J 0 i)) := zRg_tab hrJ fun r t _ _ => by have := zmC_bd hAi r t; omega
      have hc := c_X4_align hL hrJ hAi
      rw [e3, hCe] at hc
      rw [e3] at hrt
      have h := ih (i + 1) _ (by omega) (zSm.trans hJ zSm.rfl.tab) hrt
      refine s_X4_strangest_11 (J22 := ztab J 124 (m i) n (zmC I 0 i)) (v22 := C i) hG hR hE hL hrJ (by omega) (by omega) (fun e => absurd e (by omega)) (fun _ => hc) hrt (by omega) (fun _ e => ?_) (fun _ e => ?_)
      · simp only [zsg] at h
        rw [if_neg (by omega)] at h
        exact h
      · simp only [zsg] at h
        rw [if_pos e] at h
        exact h
  exact key N 0 _ (by omega) zSm.rfl (zRg_up hr (by decide))
abbrev rm_X4_numberOf : Room := { frames := 2, cells := 0, slots := 0, locals := 44 }
set_option maxRecDepth 100000 in
set_option maxHeartbeats 4000000 in
theorem s_X4_numberOf_0 {G : zCx} {F : zFr} {I : zStore} {post : Option Value → zStore → Prop}{line : Int} {slot : Int} (hG : zOK G "LineLearnerModel" cX4_numberOf 7) (hR : zRoom G rm_X4_numberOf) (hE : zRetI G F cX4_numberOf 0 0 post) (hL : zLayM F) (hr : zRg I) (hl : 0 ≤ line ∧ line < 12) (hs : 0 ≤ slot ∧ slot < 40) (hu : ∀ _u : Unit, I 122 (12 * (40 * 0 + slot) + line) ≠ (-1) → (0 ≤ I 122 (12 * (40 * 0 + slot) + line) ∧ I 122 (12 * (40 * 0 + slot) + line) < 30) ∧ zmT I ((30 * line) + (I 122 (12 * (40 * 0 + slot) + line))))
    (k1 : ((I 122 (12 * (40 * 0 + slot) + line)) = (-1)) → post (some (.int (zI (-1)))) I)
    (k2 : ((I 122 (12 * (40 * 0 + slot) + line)) ≠ (-1)) → ((I 120 slot) = 1) → zW G F 0 0 I [(0, .ref (F.1 110)), (1, .int (zI line)), (2, .int (zI slot)), (3, .int (zI (I 122 (12 * (40 * 0 + slot) + line)))), (4, .int (zI ((30 * line) + (I 122 (12 * (40 * 0 + slot) + line))))), (5, .int (zI 0)), (6, .int (zI (max 0 ((I 117 ((30 * line) + (I 122 (12 * (40 * 0 + slot) + line)))) - 9))))] [] 52)
    (k3 : ((I 122 (12 * (40 * 0 + slot) + line)) ≠ (-1)) → ((I 120 slot) ≠ 1) → post (some (.int (zI (-1)))) I) :
    zW G F 0 0 I [(0, .ref (F.1 110)), (1, .int (zI line)), (2, .int (zI slot))] [] 0 := by
  refine z_aload_n 0 hG dX4_numberOf_0 rfl rfl ?_
  refine z_iconst 0 hG dX4_numberOf_1 ?_
  refine z_iload_n 2 hG dX4_numberOf_2 rfl rfl ?_
  refine z_iload_n 1 hG dX4_numberOf_3 rfl rfl ?_
  refine z_callV [.int (zI 0), .int (zI slot), .int (zI line)] hG hR (c_X4_tokenOf hL hr (by first | assumption | omega | ((try simp only [zup_k, zup_i, zup_at, ne_eq, not_false_eq_true, Nat.reduceEqDiff]); simp only [zup_at]; omega)) (by first | assumption | omega | ((try simp only [zup_k, zup_i, zup_at, ne_eq, not_false_eq_true, Nat.reduceEqDiff]); simp only [zup_at]; omega)) (by first | assumption | omega | ((try simp only [zup_k, zup_i, zup_at, ne_eq, not_false_eq_true, Nat.reduceEqDiff]); simp only [zup_at]; omega))) hd_X4_tokenOf kw844 kw846 kp31 rfl (zltM hL (by decide)) (zl110 hL) (by decide) (by decide) (by decide) (by decide) rfl rfl (Nat.le_of_ble_eq_true rfl) dX4_numberOf_4 (fun r I' hp => ?_)
  rw [hp.1, hp.2]
  show zW G F 0 0 I [(0, .ref (F.1 110)), (1, .int (zI line)), (2, .int (zI slot))] [.int (zI (I 122 (12 * (40 * 0 + slot) + line)))] 7
  refine z_istore_n (lv' := [(3, .int (zI (I 122 (12 * (40 * 0 + slot) + line)))), (0, .ref (F.1 110)), (1, .int (zI line)), (2, .int (zI slot))]) hG dX4_numberOf_7 rfl (by decide) rfl ?_
  refine z_iload_n 0 hG dX4_numberOf_8 rfl rfl ?_
  refine z_iconst (-1) hG dX4_numberOf_9 ?_
  refine z_icmp_eq (tgt := 23) hG dX4_numberOf_10 (by decide) (hr _ _) (by decide) (fun c10 => ?_) (fun c10 => ?_)
  · skip
    refine z_iconst (-1) hG dX4_numberOf_23 ?_
    exact hE _ _ _ _ dX4_numberOf_24 (k1 c10)
  · skip
    refine z_aload_n 1 hG dX4_numberOf_13 rfl rfl ?_
    refine z_getR (t := 120) hG zcl4 (zltM hL (by decide)) (zl110 hL) 15 (by decide) rfl kw692 dX4_numberOf_14 ?_
    refine z_iload_n 3 hG dX4_numberOf_17 rfl rfl ?_
    refine z_iald (v := I 120 slot) hG (zltM hL (by decide)) (zl120 hL) (by decide) (by omega) rfl dX4_numberOf_18 ?_
    refine z_iconst 1 hG dX4_numberOf_19 ?_
    refine z_icmp_eq (tgt := 25) hG dX4_numberOf_20 (by decide) (hr _ _) (by decide) (fun c20 => ?_) (fun c20 => ?_)
    · skip
      obtain ⟨u1, u2, u3, u4, u5⟩ := hu () c10
      refine z_bipush 30 hG dX4_numberOf_25 (by decide) ?_
      refine z_iload_n 2 hG dX4_numberOf_27 rfl rfl ?_
      refine z_imul hG dX4_numberOf_28 ?_
      refine z_iload_n 0 hG dX4_numberOf_29 rfl rfl ?_
      refine z_iadd hG dX4_numberOf_30 ?_
      refine z_istore (lv' := [(4, .int (zI ((30 * line) + (I 122 (12 * (40 * 0 + slot) + line))))), (3, .int (zI (I 122 (12 * (40 * 0 + slot) + line)))), (0, .ref (F.1 110)), (1, .int (zI line)), (2, .int (zI slot))]) hG dX4_numberOf_31 (by decide) rfl ?_
      refine z_iconst 0 hG dX4_numberOf_33 ?_
      refine z_istore (lv' := [(5, .int (zI 0)), (4, .int (zI ((30 * line) + (I 122 (12 * (40 * 0 + slot) + line))))), (3, .int (zI (I 122 (12 * (40 * 0 + slot) + line)))), (0, .ref (F.1 110)), (1, .int (zI line)), (2, .int (zI slot))]) hG dX4_numberOf_34 (by decide) rfl ?_
      refine z_iconst 0 hG dX4_numberOf_36 ?_
      refine z_aload_n 3 hG dX4_numberOf_37 rfl rfl ?_
      refine z_getR (t := 117) hG zcl4 (zltM hL (by decide)) (zl110 hL) 9 (by decide) rfl kw686 dX4_numberOf_38 ?_
      refine z_iload 1 hG dX4_numberOf_41 rfl ?_
      refine z_iald (v := I 117 ((30 * line) + (I 122 (12 * (40 * 0 + slot) + line)))) hG (zltM hL (by decide)) (zl117 hL) (by decide) (by omega) rfl dX4_numberOf_43 ?_
      refine z_bipush 9 hG dX4_numberOf_44 (by decide) ?_
      refine z_isub hG dX4_numberOf_46 ?_
      refine z_max hG hR zm_X4_142 (by decide) (Nat.le_of_ble_eq_true rfl) (by decide) (by omega) dX4_numberOf_47 ?_
      refine z_istore (lv' := [(6, .int (zI (max 0 ((I 117 ((30 * line) + (I 122 (12 * (40 * 0 + slot) + line)))) - 9)))), (5, .int (zI 0)), (4, .int (zI ((30 * line) + (I 122 (12 * (40 * 0 + slot) + line))))), (3, .int (zI (I 122 (12 * (40 * 0 + slot) + line)))), (0, .ref (F.1 110)), (1, .int (zI line)), (2, .int (zI slot))]) hG dX4_numberOf_50 (by decide) rfl ?_
      refine z_perm (lv' := [(0, .ref (F.1 110)), (1, .int (zI line)), (2, .int (zI slot)), (3, .int (zI (I 122 (12 * (40 * 0 + slot) + line)))), (4, .int (zI ((30 * line) + (I 122 (12 * (40 * 0 + slot) + line))))), (5, .int (zI 0)), (6, .int (zI (max 0 ((I 117 ((30 * line) + (I 122 (12 * (40 * 0 + slot) + line)))) - 9))))]) [4, 5, 6, 3, 2, 1, 0] rfl ?_
      exact k2 c10 c20
    · skip
      refine z_iconst (-1) hG dX4_numberOf_23 ?_
      exact hE _ _ _ _ dX4_numberOf_24 (k3 c10 c20)

set_option maxRecDepth 100000 in
set_option maxHeartbeats 4000000 in
theorem s_X4_numberOf_52 {G : zCx} {F : zFr} {I : zStore} {post : Option Value → zStore → Prop}{line slot t own x k : Int} (hG : zOK G "LineLearnerModel" cX4_numberOf 7) (hR : zRoom G rm_X4_numberOf) (hE : zRetI G F cX4_numberOf 0 0 post) (hL : zLayM F) (hr : zRg I) (hl : 0 ≤ line ∧ line < 12) (ho : 0 ≤ own ∧ own < 360) (h1 : 0 ≤ I 116 own ∧ 0 ≤ I 117 own ∧ I 116 own + I 117 own ≤ 30) (h2 : 0 ≤ k ∧ k ≤ I 117 own)
    (k1 : ((I 117 own) ≤ k) → post (some (.int (zI x))) I)
    (k2 : (k < (I 117 own)) → zW G F 0 0 I [(0, .ref (F.1 110)), (1, .int (zI line)), (2, .int (zI slot)), (3, .int (zI t)), (4, .int (zI own)), (5, .int (zI (((10 * x) + (I 113 (((30 * line) + (I 116 own)) + k))) - 48))), (6, .int (zI (k + 1)))] [] 52) :
    zW G F 0 0 I [(0, .ref (F.1 110)), (1, .int (zI line)), (2, .int (zI slot)), (3, .int (zI t)), (4, .int (zI own)), (5, .int (zI x)), (6, .int (zI k))] [] 52 := by
  refine z_iload 6 hG dX4_numberOf_52 rfl ?_
  refine z_aload_n 0 hG dX4_numberOf_54 rfl rfl ?_
  refine z_getR (t := 117) hG zcl4 (zltM hL (by decide)) (zl110 hL) 9 (by decide) rfl kw686 dX4_numberOf_55 ?_
  refine z_iload 4 hG dX4_numberOf_58 rfl ?_
  refine z_iald (v := I 117 own) hG (zltM hL (by decide)) (zl117 hL) (by decide) (by omega) rfl dX4_numberOf_60 ?_
  refine z_icmp_ge (tgt := 101) hG dX4_numberOf_61 (by decide) (by omega) (hr _ _) (fun c61 => ?_) (fun c61 => ?_)
  · skip
    refine z_iload 5 hG dX4_numberOf_101 rfl ?_
    exact hE _ _ _ _ dX4_numberOf_103 (k1 c61)
  · skip
    refine z_bipush 10 hG dX4_numberOf_64 (by decide) ?_
    refine z_iload 5 hG dX4_numberOf_66 rfl ?_
    refine z_imul hG dX4_numberOf_68 ?_
    refine z_aload_n 0 hG dX4_numberOf_69 rfl rfl ?_
    refine z_getR (t := 113) hG zcl4 (zltM hL (by decide)) (zl110 hL) 5 (by decide) rfl kw682 dX4_numberOf_70 ?_
    refine z_bipush 30 hG dX4_numberOf_73 (by decide) ?_
    refine z_iload_n 1 hG dX4_numberOf_75 rfl rfl ?_
    refine z_imul hG dX4_numberOf_76 ?_
    refine z_aload_n 0 hG dX4_numberOf_77 rfl rfl ?_
    refine z_getR (t := 116) hG zcl4 (zltM hL (by decide)) (zl110 hL) 8 (by decide) rfl kw685 dX4_numberOf_78 ?_
    refine z_iload 4 hG dX4_numberOf_81 rfl ?_
    refine z_iald (v := I 116 own) hG (zltM hL (by decide)) (zl116 hL) (by decide) (by omega) rfl dX4_numberOf_83 ?_
    refine z_iadd hG dX4_numberOf_84 ?_
    refine z_iload 6 hG dX4_numberOf_85 rfl ?_
    refine z_iadd hG dX4_numberOf_87 ?_
    refine z_iald (v := I 113 (((30 * line) + (I 116 own)) + k)) hG (zltM hL (by decide)) (zl113 hL) (by decide) (by omega) rfl dX4_numberOf_88 ?_
    refine z_iadd hG dX4_numberOf_89 ?_
    refine z_bipush 48 hG dX4_numberOf_90 (by decide) ?_
    refine z_isub hG dX4_numberOf_92 ?_
    refine z_istore (lv' := [(5, .int (zI (((10 * x) + (I 113 (((30 * line) + (I 116 own)) + k))) - 48))), (0, .ref (F.1 110)), (1, .int (zI line)), (2, .int (zI slot)), (3, .int (zI t)), (4, .int (zI own)), (6, .int (zI k))]) hG dX4_numberOf_93 (by decide) rfl ?_
    refine z_iinc (lv' := [(6, .int (zI (k + 1))), (5, .int (zI (((10 * x) + (I 113 (((30 * line) + (I 116 own)) + k))) - 48))), (0, .ref (F.1 110)), (1, .int (zI line)), (2, .int (zI slot)), (3, .int (zI t)), (4, .int (zI own))]) 6 hG dX4_numberOf_95 rfl (by decide) rfl ?_
    refine z_goto (tgt := 52) hG dX4_numberOf_98 (by decide) ?_
    refine z_perm (lv' := [(0, .ref (F.1 110)), (1, .int (zI line)), (2, .int (zI slot)), (3, .int (zI t)), (4, .int (zI own)), (5, .int (zI (((10 * x) + (I 113 (((30 * line) + (I 116 own)) + k))) - 48))), (6, .int (zI (k + 1)))]) [2, 3, 4, 5, 6, 1, 0] rfl ?_
    exact k2 c61

/-- the number that the model reads off the token at own of the line -/
def zmno (I : zStore) (line own : Int) : Int := znum (I 113) (30 * line + I 116 own + max 0 (I 117 own - 9)) (I 117 own - max 0 (I 117 own - 9)).toNat
def zmb (I : zStore) (line slot : Int) : Int := if I 122 (12 * (40 * 0 + slot) + line) ≠ (-1) ∧ I 120 slot = 1 then zmno I line (30 * line + I 122 (12 * (40 * 0 + slot) + line)) else (-1)
set_option maxHeartbeats 4000000 in
theorem c_X4_numberOf {F : zFr} {I : zStore} {line slot : Int} (hL : zLayM F) (hr : zRg I) (hl : 0 ≤ line ∧ line < 12) (hs : 0 ≤ slot ∧ slot < 40) (hu : ∀ _u : Unit, I 122 (12 * (40 * 0 + slot) + line) ≠ (-1) → (0 ≤ I 122 (12 * (40 * 0 + slot) + line) ∧ I 122 (12 * (40 * 0 + slot) + line) < 30) ∧ zmT I (30 * line + I 122 (12 * (40 * 0 + slot) + line))) : ∀ (l : Launch) (D : va_G) (cs : Nat → ClassId), l.stackTraces = false → zMt l yX4_numberOf cX4_numberOf 7 (some .int) rm_X4_numberOf D cs F I [.ref (F.1 110), .int (zI line), .int (zI slot)] (fun r I' => r = some (.int (zI (zmb I line slot))) ∧ I' = I) := by
  intro l D cs hst
  refine zMt.ofI hst (by decide +kernel) (Nat.le_of_ble_eq_true rfl) fun G hG hR hE => ?_
  have no : ¬ (I 122 (12 * (40 * 0 + slot) + line) ≠ (-1) ∧ I 120 slot = 1) → some (Value.int (zI (-1))) = some (Value.int (zI (zmb I line slot))) ∧ I = I := fun q => by
    unfold zmb
    rw [if_neg q]
    exact ⟨rfl, rfl⟩
  have yes : I 122 (12 * (40 * 0 + slot) + line) ≠ (-1) → I 120 slot = 1 → zW G F 0 0 I [(0, .ref (F.1 110)), (1, .int (zI line)), (2, .int (zI slot)), (3, .int (zI (I 122 (12 * (40 * 0 + slot) + line)))), (4, .int (zI (30 * line + I 122 (12 * (40 * 0 + slot) + line)))), (5, .int (zI 0)), (6, .int (zI (max 0 (I 117 (30 * line + I 122 (12 * (40 * 0 + slot) + line)) - 9))))] [] 52 := by
    intro q1 q2
    obtain ⟨u1, u2, u3, u4, u5⟩ := hu () q1
    have hE2 : zmb I line slot = zmno I line (30 * line + I 122 (12 * (40 * 0 + slot) + line)) := if_pos ⟨q1, q2⟩
    rw [hE2] at hE
    generalize I 122 (12 * (40 * 0 + slot) + line) = t at *
    unfold zmno at hE
    generalize hk0 : max 0 (I 117 (30 * line + t) - 9) = k0 at *
    have key : ∀ (d k : Nat), (k : Int) + d + k0 = I 117 (30 * line + t) → zW G F 0 0 I [(0, .ref (F.1 110)), (1, .int (zI line)), (2, .int (zI slot)), (3, .int (zI t)), (4, .int (zI (30 * line + t))), (5, .int (zI (znum (I 113) (30 * line + I 116 (30 * line + t) + k0) k))), (6, .int (zI (k0 + k)))] [] 52 := by
      intro d
      induction d with
      | zero =>
        intro k hk
        refine s_X4_numberOf_52 hG hR hE hL hr hl (by omega) (by omega) (by omega) (fun _ => ⟨?_, rfl⟩) (fun q => absurd q (by omega))
        rw [show (I 117 (30 * line + t) - k0).toNat = k by omega]
      | succ d ih =>
        intro k hk
        have h := ih (k + 1) (by omega)
        refine s_X4_numberOf_52 hG hR hE hL hr hl (by omega) (by omega) (by omega) (fun q => absurd q (by omega)) (fun _ => ?_)
        simp only [znum] at h
        rw [show 10 * znum (I 113) (30 * line + I 116 (30 * line + t) + k0) k + I 113 (30 * line + I 116 (30 * line + t) + (k0 + (k : Int))) - 48 = znum (I 113) (30 * line + I 116 (30 * line + t) + k0) k * 10 + (I 113 (30 * line + I 116 (30 * line + t) + k0 + (k : Int)) - 48) by rw [← Int.add_assoc]; omega, show k0 + (k : Int) + 1 = k0 + ((k + 1 : Nat) : Int) by omega]
        exact h
    have := key (I 117 (30 * line + t) - k0).toNat 0 (by omega)
    rw [show k0 + ((0 : Nat) : Int) = k0 by omega] at this
    exact this
  exact s_X4_numberOf_0 hG hR hE hL hr hl hs hu (fun q => no (fun p => p.1 q)) (fun q1 q2 => yes q1 q2) (fun q1 q2 => no (fun p => q2 p.2))
theorem zmb_t {I : zStore} {v line slot : Int} : zmb (zup I 110 0 v) line slot = zmb I line slot := rfl
abbrev rm_X4_numberAt : Room := { frames := 3, cells := 0, slots := 0, locals := 70 }
set_option maxRecDepth 100000 in
set_option maxHeartbeats 4000000 in
theorem s_X4_numberAt {G : zCx} {F : zFr} {I : zStore} {post : Option Value → zStore → Prop}{line : Int} {slot : Int} (hG : zOK G "LineLearnerModel" cX4_numberAt 3) (hR : zRoom G rm_X4_numberAt) (hE : zRetI G F cX4_numberAt 0 0 post) (hL : zLayM F) (hr : zRg I) (hl : -2147483648 ≤ line ∧ line < 2147483648) (hs : -2147483648 ≤ slot ∧ slot < 2147483648) (hf : 0 ≤ I 118 0 ∧ I 118 0 ≤ 40) (hn : 0 ≤ I 110 3 ∧ I 110 3 ≤ 12) (hu : ∀ _u : Unit, 0 ≤ slot → slot < I 118 0 → ∀ l : Int, 0 ≤ l → l < I 110 3 → ∀ _u : Unit, I 122 (12 * (40 * 0 + slot) + l) ≠ (-1) → (0 ≤ I 122 (12 * (40 * 0 + slot) + l) ∧ I 122 (12 * (40 * 0 + slot) + l) < 30) ∧ zmT I ((30 * l) + (I 122 (12 * (40 * 0 + slot) + l))))
    (k1 : (¬ (0 ≤ line ∧ line < I 110 3)) → post (some (.int (zI 0))) (zup (zup I 110 0 0) 110 0 1))
    (k2 : (0 ≤ line ∧ line < I 110 3) → (¬ (0 ≤ slot ∧ slot < I 118 0)) → post (some (.int (zI 0))) (zup (zup I 110 0 0) 110 0 1))
    (k3 : (0 ≤ line ∧ line < I 110 3) → (0 ≤ slot ∧ slot < I 118 0) → post (some (.int (zI (zmb (zup I 110 0 0) line slot)))) (zup I 110 0 0)) :
    zW G F 0 0 I [(0, .ref (F.1 110)), (1, .int (zI line)), (2, .int (zI slot))] [] 0 := by
  refine z_aload_n 0 hG dX4_numberAt_0 rfl rfl ?_
  refine z_iconst 0 hG dX4_numberAt_1 ?_
  refine z_putI hG zcl4 (zltM hL (by decide)) (zl110 hL) 0 (by decide) (ki := 0) rfl rfl kw677 rfl rfl dX4_numberAt_2 ?_
  refine z_aload_n 0 hG dX4_numberAt_5 rfl rfl ?_
  refine z_iload_n 1 hG dX4_numberAt_6 rfl rfl ?_
  refine z_callV [.int (zI line)] hG hR (c_X4_isLine hL (zRg_up hr (by decide)) (by first | assumption | omega | ((try simp only [zup_k, zup_i, zup_at, ne_eq, not_false_eq_true, Nat.reduceEqDiff]); simp only [zup_at]; omega))) hd_X4_isLine kw787 kw789 kp24 rfl (zltM hL (by decide)) (zl110 hL) (by decide) (by decide) (by decide) (by decide) rfl rfl (Nat.le_of_ble_eq_true rfl) dX4_numberAt_7 (fun r I' hp => ?_)
  rw [hp.1, hp.2]
  show zW G F 0 0 (zup I 110 0 0) [(0, .ref (F.1 110)), (1, .int (zI line)), (2, .int (zI slot))] [.int (zI (if 0 ≤ line ∧ line < I 110 3 then 1 else 0))] 10
  refine z_if_eq (tgt := 30) hG dX4_numberAt_10 (by decide) (by omega) (fun c10 => ?_) (fun c10 => ?_)
  · skip
    have c10b := zif_n c10
    refine z_aload_n 0 hG dX4_numberAt_30 rfl rfl ?_
    refine z_iconst 1 hG dX4_numberAt_31 ?_
    refine z_callV [.int (zI 1)] hG hR (c_X4_fail hL (zRg_up hr (by decide)) (by first | assumption | omega | ((try simp only [zup_k, zup_i, zup_at, ne_eq, not_false_eq_true, Nat.reduceEqDiff]); simp only [zup_at]; omega))) hd_X4_fail kw772 kw774 kp23 rfl (zltM hL (by decide)) (zl110 hL) (by decide) (by decide) (by decide) (by decide) rfl rfl (Nat.le_of_ble_eq_true rfl) dX4_numberAt_32 (fun r I' hp => ?_)
    rw [hp.1, hp.2]
    show zW G F 0 0 (zup (zup I 110 0 0) 110 0 1) [(0, .ref (F.1 110)), (1, .int (zI line)), (2, .int (zI slot))] [.int (zI 0)] 35
    exact hE _ _ _ _ dX4_numberAt_35 (k1 c10b)
  · skip
    have c10b := zif_y c10
    refine z_aload_n 0 hG dX4_numberAt_13 rfl rfl ?_
    refine z_iload_n 2 hG dX4_numberAt_14 rfl rfl ?_
    refine z_callV [.int (zI slot)] hG hR (c_X4_isSlot hL (zRg_up hr (by decide)) (by first | assumption | omega | ((try simp only [zup_k, zup_i, zup_at, ne_eq, not_false_eq_true, Nat.reduceEqDiff]); simp only [zup_at]; omega))) hd_X4_isSlot kw902 kw904 kp37 rfl (zltM hL (by decide)) (zl110 hL) (by decide) (by decide) (by decide) (by decide) rfl rfl (Nat.le_of_ble_eq_true rfl) dX4_numberAt_15 (fun r I' hp => ?_)
    rw [hp.1, hp.2]
    show zW G F 0 0 (zup I 110 0 0) [(0, .ref (F.1 110)), (1, .int (zI line)), (2, .int (zI slot))] [.int (zI (if 0 ≤ slot ∧ slot < I 118 0 then 1 else 0))] 18
    refine z_if_eq (tgt := 30) hG dX4_numberAt_18 (by decide) (by omega) (fun c18 => ?_) (fun c18 => ?_)
    · skip
      have c18b := zif_n c18
      refine z_aload_n 0 hG dX4_numberAt_30 rfl rfl ?_
      refine z_iconst 1 hG dX4_numberAt_31 ?_
      refine z_callV [.int (zI 1)] hG hR (c_X4_fail hL (zRg_up hr (by decide)) (by first | assumption | omega | ((try simp only [zup_k, zup_i, zup_at, ne_eq, not_false_eq_true, Nat.reduceEqDiff]); simp only [zup_at]; omega))) hd_X4_fail kw772 kw774 kp23 rfl (zltM hL (by decide)) (zl110 hL) (by decide) (by decide) (by decide) (by decide) rfl rfl (Nat.le_of_ble_eq_true rfl) dX4_numberAt_32 (fun r I' hp => ?_)
      rw [hp.1, hp.2]
      show zW G F 0 0 (zup (zup I 110 0 0) 110 0 1) [(0, .ref (F.1 110)), (1, .int (zI line)), (2, .int (zI slot))] [.int (zI 0)] 35
      exact hE _ _ _ _ dX4_numberAt_35 (k2 c10b c18b)
    · skip
      have c18b := zif_y c18
      refine z_aload_n 0 hG dX4_numberAt_21 rfl rfl ?_
      refine z_iload_n 1 hG dX4_numberAt_22 rfl rfl ?_
      refine z_iload_n 2 hG dX4_numberAt_23 rfl rfl ?_
      refine z_callV [.int (zI line), .int (zI slot)] hG hR (c_X4_numberOf hL (zRg_up hr (by decide)) (by first | assumption | omega | ((try simp only [zup_k, zup_i, zup_at, ne_eq, not_false_eq_true, Nat.reduceEqDiff]); simp only [zup_at]; omega)) (by first | assumption | omega | ((try simp only [zup_k, zup_i, zup_at, ne_eq, not_false_eq_true, Nat.reduceEqDiff]); simp only [zup_at]; omega)) (hu () (by omega) (by omega) line (by omega) (by omega))) hd_X4_numberOf kw930 kw932 kp38 rfl (zltM hL (by decide)) (zl110 hL) (by decide) (by decide) (by decide) (by decide) rfl rfl (Nat.le_of_ble_eq_true rfl) dX4_numberAt_24 (fun r I' hp => ?_)
      rw [hp.1, hp.2]
      show zW G F 0 0 (zup I 110 0 0) [(0, .ref (F.1 110)), (1, .int (zI line)), (2, .int (zI slot))] [.int (zI (zmb (zup I 110 0 0) line slot))] 27
      refine z_goto (tgt := 35) hG dX4_numberAt_27 (by decide) ?_
      exact hE _ _ _ _ dX4_numberAt_35 (k3 c10b c18b)

theorem c_X4_numberAt {F : zFr} {I : zStore}  {line : Int} {slot : Int}  (hL : zLayM F) (hr : zRg I) (hl : -2147483648 ≤ line ∧ line < 2147483648) (hs : -2147483648 ≤ slot ∧ slot < 2147483648) (hf : 0 ≤ I 118 0 ∧ I 118 0 ≤ 40) (hn : 0 ≤ I 110 3 ∧ I 110 3 ≤ 12) (hu : ∀ _u : Unit, 0 ≤ slot → slot < I 118 0 → ∀ l : Int, 0 ≤ l → l < I 110 3 → ∀ _u : Unit, I 122 (12 * (40 * 0 + slot) + l) ≠ (-1) → (0 ≤ I 122 (12 * (40 * 0 + slot) + l) ∧ I 122 (12 * (40 * 0 + slot) + l) < 30) ∧ zmT I ((30 * l) + (I 122 (12 * (40 * 0 + slot) + l)))) : ∀ (l : Launch) (D : va_G) (cs : Nat → ClassId), l.stackTraces = false → zMt l yX4_numberAt cX4_numberAt 3 (some .int) rm_X4_numberAt D cs F I [.ref (F.1 110), .int (zI line), .int (zI slot)] (fun r I' => r = some (.int (zI (if (0 ≤ line ∧ line < I 110 3) ∧ (0 ≤ slot ∧ slot < I 118 0) then zmb I line slot else 0))) ∧ I' = zup I 110 0 (if (0 ≤ line ∧ line < I 110 3) ∧ (0 ≤ slot ∧ slot < I 118 0) then 0 else 1)) :=
  fun l D cs hst => zMt.ofI hst (by decide +kernel) (Nat.le_of_ble_eq_true rfl) fun G hG hR hE => s_X4_numberAt hG hR hE hL hr hl hs hf hn hu
    (by intros; refine ⟨?_, ?_⟩ <;> (repeat' split) <;> first | rfl | (exfalso; omega) | exact zup_up _ _ _ _ _ | (simp only [zup_self]; done))
    (by intros; refine ⟨?_, ?_⟩ <;> (repeat' split) <;> first | rfl | (exfalso; omega) | exact zup_up _ _ _ _ _ | (simp only [zup_self]; done))
    (by intros; refine ⟨?_, ?_⟩ <;> (repeat' split) <;> first | rfl | (exfalso; omega) | exact zup_up _ _ _ _ _ | (simp only [zup_self]; done))
abbrev rm_X4_canPair : Room := { frames := 3, cells := 0, slots := 0, locals := 70 }
set_option maxRecDepth 100000 in
set_option maxHeartbeats 4000000 in
theorem s_X4_canPair {G : zCx} {F : zFr} {I : zStore} {post : Option Value → zStore → Prop}{slot : Int} {own : Int} (hG : zOK G "LineLearnerModel" cX4_canPair 4) (hR : zRoom G rm_X4_canPair) (hE : zRetZ G F cX4_canPair 0 0 post) (hL : zLayM F) (hr : zRg I) (h1 : 0 ≤ slot ∧ slot < 40) (hn : 0 ≤ I 110 3 ∧ I 110 3 ≤ 12) (hu : ∀ l : Int, 0 ≤ l → l < I 110 3 → I 122 (12 * (40 * 0 + slot) + l) ≠ (-1) → 0 ≤ I 122 (12 * (40 * 0 + slot) + l) ∧ I 122 (12 * (40 * 0 + slot) + l) < 30) (ho : zmT I own) (hx : ∀ _u : Unit, I 121 (40 * 0 + slot) ≠ (-1) → zmT I (I 121 (40 * 0 + slot)))
    (k1 : ((I 120 (40 * 0 + slot)) = (I 115 own)) → ((I 121 (40 * 0 + slot)) = (-1)) → ((I 117 own) < (zme (I 122) (I 117) slot 0 (I 110 3).toNat)) → post (some (.int (zI 0))) I)
    (k2 : ((I 120 (40 * 0 + slot)) = (I 115 own)) → ((I 121 (40 * 0 + slot)) = (-1)) → ((zme (I 122) (I 117) slot 0 (I 110 3).toNat) ≤ (I 117 own)) → ((zme (I 122) (I 117) slot 1 (I 110 3).toNat) < (I 117 own)) → post (some (.int (zI 0))) I)
    (k3 : ((I 120 (40 * 0 + slot)) = (I 115 own)) → ((I 121 (40 * 0 + slot)) = (-1)) → ((zme (I 122) (I 117) slot 0 (I 110 3).toNat) ≤ (I 117 own)) → ((I 117 own) ≤ (zme (I 122) (I 117) slot 1 (I 110 3).toNat)) → post (some (.int (zI 1))) I)
    (k4 : ((I 120 (40 * 0 + slot)) = (I 115 own)) → ((I 121 (40 * 0 + slot)) ≠ (-1)) → post (some (.int (zI (zb (zmS (I 117) (I 116) (I 113) (I 121 (40 * 0 + slot)) own))))) I)
    (k5 : ((I 120 (40 * 0 + slot)) ≠ (I 115 own)) → post (some (.int (zI 0))) I) :
    zW G F 0 0 I [(0, .ref (F.1 110)), (1, .int (zI slot)), (2, .int (zI own))] [] 0 := by
  have ho1 := ho.1
  refine z_iconst 0 hG dX4_canPair_0 ?_
  refine z_iload_n 1 hG dX4_canPair_1 rfl rfl ?_
  refine z_callS [.int (zI 0), .int (zI slot)] hG hR (c_X4_at hr) hd_X4_at kw830 kw831 (by decide) (by decide) (by decide) (by decide) rfl rfl (Nat.le_of_ble_eq_true rfl) dX4_canPair_2 (fun r I' hp => ?_)
  rw [hp.1, hp.2]
  show zW G F 0 0 I [(0, .ref (F.1 110)), (1, .int (zI slot)), (2, .int (zI own))] [.int (zI (40 * 0 + slot))] 5
  refine z_istore_n (lv' := [(3, .int (zI (40 * 0 + slot))), (0, .ref (F.1 110)), (1, .int (zI slot)), (2, .int (zI own))]) hG dX4_canPair_5 rfl (by decide) rfl ?_
  refine z_aload_n 1 hG dX4_canPair_6 rfl rfl ?_
  refine z_getR (t := 120) hG zcl4 (zltM hL (by decide)) (zl110 hL) 15 (by decide) rfl kw692 dX4_canPair_7 ?_
  refine z_iload_n 0 hG dX4_canPair_10 rfl rfl ?_
  refine z_iald (v := I 120 (40 * 0 + slot)) hG (zltM hL (by decide)) (zl120 hL) (by decide) (by omega) rfl dX4_canPair_11 ?_
  refine z_aload_n 1 hG dX4_canPair_12 rfl rfl ?_
  refine z_getR (t := 115) hG zcl4 (zltM hL (by decide)) (zl110 hL) 7 (by decide) rfl kw684 dX4_canPair_13 ?_
  refine z_iload_n 3 hG dX4_canPair_16 rfl rfl ?_
  refine z_iald (v := I 115 own) hG (zltM hL (by decide)) (zl115 hL) (by decide) (by omega) rfl dX4_canPair_17 ?_
  refine z_icmp_eq (tgt := 23) hG dX4_canPair_18 (by decide) (hr _ _) (hr _ _) (fun c18 => ?_) (fun c18 => ?_)
  · skip
    refine z_aload_n 1 hG dX4_canPair_23 rfl rfl ?_
    refine z_getR (t := 121) hG zcl4 (zltM hL (by decide)) (zl110 hL) 16 (by decide) rfl kw693 dX4_canPair_24 ?_
    refine z_iload_n 0 hG dX4_canPair_27 rfl rfl ?_
    refine z_iald (v := I 121 (40 * 0 + slot)) hG (zltM hL (by decide)) (zl121 hL) (by decide) (by omega) rfl dX4_canPair_28 ?_
    refine z_iconst (-1) hG dX4_canPair_29 ?_
    refine z_icmp_eq (tgt := 45) hG dX4_canPair_30 (by decide) (hr _ _) (by decide) (fun c30 => ?_) (fun c30 => ?_)
    · skip
      refine z_aload_n 1 hG dX4_canPair_45 rfl rfl ?_
      refine z_getR (t := 117) hG zcl4 (zltM hL (by decide)) (zl110 hL) 9 (by decide) rfl kw686 dX4_canPair_46 ?_
      refine z_iload_n 3 hG dX4_canPair_49 rfl rfl ?_
      refine z_iald (v := I 117 own) hG (zltM hL (by decide)) (zl117 hL) (by decide) (by omega) rfl dX4_canPair_50 ?_
      refine z_aload_n 1 hG dX4_canPair_51 rfl rfl ?_
      refine z_iload_n 2 hG dX4_canPair_52 rfl rfl ?_
      refine z_iconst 0 hG dX4_canPair_53 ?_
      refine z_callV [.int (zI slot), .int (zI 0)] hG hR (c_X4_extreme hL hr (by first | assumption | omega | ((try simp only [zup_k, zup_i, zup_at, ne_eq, not_false_eq_true, Nat.reduceEqDiff]); simp only [zup_at]; omega)) (by decide) (by first | assumption | omega | ((try simp only [zup_k, zup_i, zup_at, ne_eq, not_false_eq_true, Nat.reduceEqDiff]); simp only [zup_at]; omega)) (by first | assumption | omega | ((try simp only [zup_k, zup_i, zup_at, ne_eq, not_false_eq_true, Nat.reduceEqDiff]); simp only [zup_at]; omega))) hd_X4_extreme kw886 kw888 kp36 rfl (zltM hL (by decide)) (zl110 hL) (by decide) (by decide) (by decide) (by decide) rfl rfl (Nat.le_of_ble_eq_true rfl) dX4_canPair_54 (fun r I' hp => ?_)
      rw [hp.1, hp.2]
      have ha54_0 : -2147483648 ≤ (zme (I 122) (I 117) slot 0 (I 110 3).toNat) ∧ (zme (I 122) (I 117) slot 0 (I 110 3).toNat) < 2147483648 := zme_rg hr _
      show zW G F 0 0 I [(3, .int (zI (40 * 0 + slot))), (0, .ref (F.1 110)), (1, .int (zI slot)), (2, .int (zI own))] [.int (zI (zme (I 122) (I 117) slot 0 (I 110 3).toNat)), .int (zI (I 117 own))] 57
      refine z_icmp_lt (tgt := 79) hG dX4_canPair_57 (by decide) (hr _ _) (by omega) (fun c57 => ?_) (fun c57 => ?_)
      · skip
        refine z_iconst 0 hG dX4_canPair_79 ?_
        exact hE _ _ _ _ dX4_canPair_80 (by first | decide | omega) (k1 c18 c30 c57)
      · skip
        refine z_aload_n 1 hG dX4_canPair_60 rfl rfl ?_
        refine z_getR (t := 117) hG zcl4 (zltM hL (by decide)) (zl110 hL) 9 (by decide) rfl kw686 dX4_canPair_61 ?_
        refine z_iload_n 3 hG dX4_canPair_64 rfl rfl ?_
        refine z_iald (v := I 117 own) hG (zltM hL (by decide)) (zl117 hL) (by decide) (by omega) rfl dX4_canPair_65 ?_
        refine z_aload_n 1 hG dX4_canPair_66 rfl rfl ?_
        refine z_iload_n 2 hG dX4_canPair_67 rfl rfl ?_
        refine z_iconst 1 hG dX4_canPair_68 ?_
        refine z_callV [.int (zI slot), .int (zI 1)] hG hR (c_X4_extreme hL hr (by first | assumption | omega | ((try simp only [zup_k, zup_i, zup_at, ne_eq, not_false_eq_true, Nat.reduceEqDiff]); simp only [zup_at]; omega)) (by decide) (by first | assumption | omega | ((try simp only [zup_k, zup_i, zup_at, ne_eq, not_false_eq_true, Nat.reduceEqDiff]); simp only [zup_at]; omega)) (by first | assumption | omega | ((try simp only [zup_k, zup_i, zup_at, ne_eq, not_false_eq_true, Nat.reduceEqDiff]); simp only [zup_at]; omega))) hd_X4_extreme kw886 kw888 kp36 rfl (zltM hL (by decide)) (zl110 hL) (by decide) (by decide) (by decide) (by decide) rfl rfl (Nat.le_of_ble_eq_true rfl) dX4_canPair_69 (fun r I' hp => ?_)
        rw [hp.1, hp.2]
        have ha69_0 : -2147483648 ≤ (zme (I 122) (I 117) slot 1 (I 110 3).toNat) ∧ (zme (I 122) (I 117) slot 1 (I 110 3).toNat) < 2147483648 := zme_rg hr _
        show zW G F 0 0 I [(3, .int (zI (40 * 0 + slot))), (0, .ref (F.1 110)), (1, .int (zI slot)), (2, .int (zI own))] [.int (zI (zme (I 122) (I 117) slot 1 (I 110 3).toNat)), .int (zI (I 117 own))] 72
        refine z_icmp_gt (tgt := 79) hG dX4_canPair_72 (by decide) (hr _ _) (by omega) (fun c72 => ?_) (fun c72 => ?_)
        · skip
          refine z_iconst 0 hG dX4_canPair_79 ?_
          exact hE _ _ _ _ dX4_canPair_80 (by first | decide | omega) (k2 c18 c30 c57 c72)
        · skip
          refine z_iconst 1 hG dX4_canPair_75 ?_
          refine z_goto (tgt := 80) hG dX4_canPair_76 (by decide) ?_
          exact hE _ _ _ _ dX4_canPair_80 (by first | decide | omega) (k3 c18 c30 c57 c72)
    · skip
      refine z_aload_n 1 hG dX4_canPair_33 rfl rfl ?_
      refine z_aload_n 1 hG dX4_canPair_34 rfl rfl ?_
      refine z_getR (t := 121) hG zcl4 (zltM hL (by decide)) (zl110 hL) 16 (by decide) rfl kw693 dX4_canPair_35 ?_
      refine z_iload_n 0 hG dX4_canPair_38 rfl rfl ?_
      refine z_iald (v := I 121 (40 * 0 + slot)) hG (zltM hL (by decide)) (zl121 hL) (by decide) (by omega) rfl dX4_canPair_39 ?_
      refine z_iload_n 3 hG dX4_canPair_40 rfl rfl ?_
      refine z_callV [.int (zI (I 121 (40 * 0 + slot))), .int (zI own)] hG hR (c_X4_areSame hL hr (hx () c30) ho) hd_X4_areSame kw807 kw809 kp26 rfl (zltM hL (by decide)) (zl110 hL) (by decide) (by decide) (by decide) (by decide) rfl rfl (Nat.le_of_ble_eq_true rfl) dX4_canPair_41 (fun r I' hp => ?_)
      rw [hp.1, hp.2]
      have ha41_0 : 0 ≤ (zb (zmS (I 117) (I 116) (I 113) (I 121 (40 * 0 + slot)) own)) ∧ (zb (zmS (I 117) (I 116) (I 113) (I 121 (40 * 0 + slot)) own)) ≤ 1 := zb_le _
      show zW G F 0 0 I [(3, .int (zI (40 * 0 + slot))), (0, .ref (F.1 110)), (1, .int (zI slot)), (2, .int (zI own))] [.int (zI (zb (zmS (I 117) (I 116) (I 113) (I 121 (40 * 0 + slot)) own)))] 44
      exact hE _ _ _ _ dX4_canPair_44 (by first | decide | omega) (k4 c18 c30)
  · skip
    refine z_iconst 0 hG dX4_canPair_21 ?_
    exact hE _ _ _ _ dX4_canPair_22 (by first | decide | omega) (k5 c18)

theorem c_X4_canPair {F : zFr} {I : zStore}  {slot : Int} {own : Int}  (hL : zLayM F) (hr : zRg I) (h1 : 0 ≤ slot ∧ slot < 40) (hn : 0 ≤ I 110 3 ∧ I 110 3 ≤ 12) (hu : ∀ l : Int, 0 ≤ l → l < I 110 3 → I 122 (12 * (40 * 0 + slot) + l) ≠ (-1) → 0 ≤ I 122 (12 * (40 * 0 + slot) + l) ∧ I 122 (12 * (40 * 0 + slot) + l) < 30) (ho : zmT I own) (hx : ∀ _u : Unit, I 121 (40 * 0 + slot) ≠ (-1) → zmT I (I 121 (40 * 0 + slot))) : ∀ (l : Launch) (D : va_G) (cs : Nat → ClassId), l.stackTraces = false → zMt l yX4_canPair cX4_canPair 4 (some .boolean) rm_X4_canPair D cs F I [.ref (F.1 110), .int (zI slot), .int (zI own)] (fun r I' => r = some (.int (zI (if I 120 (40 * 0 + slot) ≠ I 115 own then 0 else if I 121 (40 * 0 + slot) ≠ (-1) then zb (zmS (I 117) (I 116) (I 113) (I 121 (40 * 0 + slot)) own) else if zme (I 122) (I 117) slot 0 (I 110 3).toNat ≤ I 117 own ∧ I 117 own ≤ zme (I 122) (I 117) slot 1 (I 110 3).toNat then 1 else 0))) ∧ I' = I) :=
  fun l D cs hst => zMt.ofZ hst (by decide +kernel) (Nat.le_of_ble_eq_true rfl) fun G hG hR hE => s_X4_canPair hG hR hE hL hr h1 hn hu ho hx
    (by intros; refine ⟨?_, ?_⟩ <;> (repeat' split) <;> first | rfl | (exfalso; omega) | exact zup_up _ _ _ _ _ | (simp only [zup_self]; done))
    (by intros; refine ⟨?_, ?_⟩ <;> (repeat' split) <;> first | rfl | (exfalso; omega) | exact zup_up _ _ _ _ _ | (simp only [zup_self]; done))
    (by intros; refine ⟨?_, ?_⟩ <;> (repeat' split) <;> first | rfl | (exfalso; omega) | exact zup_up _ _ _ _ _ | (simp only [zup_self]; done))
    (by intros; refine ⟨?_, ?_⟩ <;> (repeat' split) <;> first | rfl | (exfalso; omega) | exact zup_up _ _ _ _ _ | (simp only [zup_self]; done))
    (by intros; refine ⟨?_, ?_⟩ <;> (repeat' split) <;> first | rfl | (exfalso; omega) | exact zup_up _ _ _ _ _ | (simp only [zup_self]; done))
