/-- two stores that differ in the cell k only -/
def zEq (k : Nat) (I J : zStore) : Prop := ∀ c j, c ≠ k → J c j = I c j
theorem zAl_c {k : Nat} {I J : zStore} {b : Nat} {line : Int} {n m : Nat} (h : zEq k I J) (h1 : b ≠ k) (h2 : b + 1 ≠ k) (h3 : 4 ≠ k) (h4 : 10 ≠ k) (hA : zAl I b line n m) : zAl J b line n m := by
  unfold zAl at hA ⊢
  simp only [h _ _ h1, h _ _ h2, h _ _ h3, h _ _ h4]
  exact hA
theorem zCC_c {k : Nat} {I J : zStore} {b : Nat} {line : Int} (h : zEq k I J) (h0 : b ≠ k) (h1 : b + 1 ≠ k) (h2 : b + 2 ≠ k) (h3 : b + 3 ≠ k) (h4 : b + 6 ≠ k) (h5 : 6 ≠ k) (h6 : 9 ≠ k) (h7 : 10 ≠ k) : zCC J b line = zCC I b line := by
  have e1 : zs_ J b = zs_ I b := by
    funext i
    unfold zs_
    rw [h _ _ h1]
    exact zsk_c h h4 h0 h7
  have e2 : zq_ J b line = zq_ I b line := by
    funext i t
    unfold zq_
    rw [h _ _ h1]
    exact zpc_c h h2 h3 h5 h6 h7
  unfold zCC
  rw [e1, e2, h _ _ h7]
theorem c_X3_costWith {F : zFr} {I : zStore} {line : Int} {n : Nat} {m : Nat} (hL : zLay F) (hr : zRg I) (hl : -2147483648 ≤ line ∧ line < 2147483648) (hn : 0 ≤ I 2 0 ∧ I 2 0 ≤ 12) (hA : 0 ≤ line → line < I 2 0 → zAl I 15 line n m) : ∀ (l : Launch) (D : va_G) (cs : Nat → ClassId), l.stackTraces = false → zMx l yX3_costWith cX3_costWith 2 (some .int) rm_X3_costWith D cs F I [.ref (F.1 0), .int (zI line)] (fun r I' => (0 ≤ line ∧ line < I 2 0) ∧ r = some (.int (zI (zCC I 15 line n m))) ∧ I' = ztab I 11 m n (zCC I 15 line)) (fun E I' => I' = I ∧ (E = "java/lang/IndexOutOfBoundsException" ∧ ¬ (0 ≤ line ∧ line < I 2 0))) := by
  intro l D cs hst
  refine zMx.ofI hst (by decide +kernel) rfl (Nat.le_of_ble_eq_true rfl) fun G hG hR hE hT => ?_
  by_cases q : 0 ≤ line ∧ line < I 2 0
  · have hA' := hA q.1 q.2
    have hb := zCC_bd hA' n m
    have hn2 := hA'.2.2.1
    have hm2 := hA'.2.2.2.2.1
    exact s_X3_costWith_0 (v14 := zCC I 15 line n m) (J14 := ztab I 11 m n (zCC I 15 line)) hG hR hE hT hL hr hl hn (fun e => absurd q e) (fun _ => c_X0_leastCost hL hr (zFm.at hL) hA') (zRg_tabCC hA' hr hn2) (by omega) (fun e => ⟨e, rfl, rfl⟩)
  · exact s_X3_costWith_0 (v14 := 0) (J14 := I) hG hR hE hT hL hr hl hn (fun e => ⟨rfl, rfl, e⟩) (fun e => absurd e q) hr (by omega) (fun e => absurd e q)
theorem c_X3_fits {F : zFr} {I : zStore} {line : Int} {n : Nat} {m : Nat} (hL : zLay F) (hr : zRg I) (hl : -2147483648 ≤ line ∧ line < 2147483648) (hn : 0 ≤ I 2 0 ∧ I 2 0 ≤ 12) (hA : 0 ≤ line → line < I 2 0 → zAl I 15 line n m) : ∀ (l : Launch) (D : va_G) (cs : Nat → ClassId), l.stackTraces = false → zMx l yX3_fits cX3_fits 2 (some .boolean) rm_X3_fits D cs F I [.ref (F.1 0), .int (zI line)] (fun r I' => (0 ≤ line ∧ line < I 2 0) ∧ r = some (.int (zI (zb (zRR I 15 line n m)))) ∧ I' = zM I 15 line m n) (fun E I' => I' = I ∧ (E = "java/lang/IndexOutOfBoundsException" ∧ ¬ (0 ≤ line ∧ line < I 2 0))) := by
  intro l D cs hst
  refine zMx.ofZ hst (by decide +kernel) rfl (Nat.le_of_ble_eq_true rfl) fun G hG hR hE hT => ?_
  by_cases q : 0 ≤ line ∧ line < I 2 0
  · have hA' := hA q.1 q.2
    have hb : ∀ x : Bool, zb x = 0 ∨ zb x = 1 := fun x => by cases x; exact Or.inl rfl; exact Or.inr rfl
    exact s_X3_fits_0 (v14 := zb (zRR I 15 line n m)) (J14 := zM I 15 line m n) hG hR hE hT hL hr hl hn (fun e => absurd q e) (fun _ => c_X0_isMatch hL hr (zFm.at hL) hA') (zRg_b hr) (hb _) (fun e => ⟨e, rfl, rfl⟩)
  · exact s_X3_fits_0 (v14 := 0) (J14 := I) hG hR hE hT hL hr hl hn (fun e => ⟨rfl, rfl, e⟩) (fun e => absurd e q) hr (by omega) (fun e => absurd e q)
/-- the first of the greatest costs, and that cost -/
def zsg (C : Nat → Int) : Nat → Int × Int
  | 0 => (-1, -1)
  | l + 1 => if C l ≤ (zsg C l).2 then zsg C l else ((l : Int), C l)
theorem zsg_bd {C : Nat → Int} {b : Int} (hb : -1 ≤ b) : ∀ l : Nat, (∀ i, i < l → -1 ≤ C i ∧ C i ≤ b) → (-1 ≤ (zsg C l).1 ∧ (zsg C l).1 < l) ∧ -1 ≤ (zsg C l).2 ∧ (zsg C l).2 ≤ b
  | 0, _ => by simp only [zsg]; omega
  | l + 1, h => by
    have h1 := zsg_bd hb l fun i hi => h i (by omega)
    have h2 := h l (by omega)
    simp only [zsg]
    split <;> (try dsimp only) <;> omega
set_option maxHeartbeats 4000000 in
theorem c_X3_strangest {F : zFr} {I : zStore} {N n : Nat} {m : Nat → Nat} (hL : zLay F) (hr : zRg I) (hN : I 2 0 = N) (hN2 : N ≤ 12) (hA : ∀ line : Nat, line < N → zAl I 15 line n (m line)) : ∀ (l : Launch) (D : va_G) (cs : Nat → ClassId), l.stackTraces = false → zMt l yX3_strangest cX3_strangest 5 (some .int) rm_X3_strangest D cs F I [.ref (F.1 0)] (fun r I' => r = some (.int (zI (zsg (fun line => zCC I 15 line n (m line)) N).1)) ∧ zEq 11 I I' ∧ zRg I') := by
  intro l D cs hst
  refine zMt.ofI hst (by decide +kernel) (Nat.le_of_ble_eq_true rfl) fun G hG hR hE => ?_
  refine s_X3_strangest_0 hG hR hE hL hr ?_
  generalize hC : (fun line : Nat => zCC I 15 line n (m line)) = C at hE
  have hCe : ∀ i : Nat, zCC I 15 i n (m i) = C i := fun i => by rw [← hC]
  have hCb : ∀ i : Nat, i < N → -1 ≤ C i ∧ C i ≤ 1400 := fun i hi => by
    have h1 := zCC_bd (hA i hi) n (m i)
    have h2 := (hA i hi).2.2.1
    have h3 := (hA i hi).2.2.2.2.1
    rw [hCe] at h1
    omega
  have key : ∀ (d i : Nat) (J : zStore), i + d = N → zEq 11 I J → zRg J → zW G F 0 0 J [(0, .ref (F.1 0)), (1, .int (zI (zsg C i).1)), (2, .int (zI (zsg C i).2)), (3, .int (zI i))] [] 6 := by
    intro d
    induction d with
    | zero =>
      intro i J hi hJ hrJ
      have e : i = N := by omega
      subst e
      have hb := zsg_bd (C := C) (b := 1400) (by omega) i hCb
      have e2 : J 2 0 = I 2 0 := hJ _ _ (by decide)
      exact s_X3_strangest_6 (J26 := J) (v26 := 0) hG hR hE hL hrJ (by omega) (by omega) (fun _ => ⟨rfl, hJ, hrJ⟩) (fun h => absurd h (by omega)) hrJ (by omega) (fun h => absurd h (by omega)) (fun h => absurd h (by omega))
    | succ d ih =>
      intro i J hi hJ hrJ
      have hAi := zAl_c hJ (by decide) (by decide) (by decide) (by decide) (hA i (by omega))
      have hb := zsg_bd (C := C) (b := 1400) (by omega) i fun x hx => hCb x (by omega)
      have hbi := hCb i (by omega)
      have e2 : J 2 0 = I 2 0 := hJ _ _ (by decide)
      have e3 : zCC J 15 i = zCC I 15 i := zCC_c hJ (by decide) (by decide) (by decide) (by decide) (by decide) (by decide) (by decide) (by decide)
      have hrt := zRg_tabCC (k := 11) hAi hrJ hAi.2.2.1
      have hc := c_X0_leastCost hL hrJ (zFm.at hL) hAi
      rw [e3, hCe] at hc
      rw [e3] at hrt
      have hJ2 : zEq 11 I (ztab J 11 (m i) n (zCC I 15 i)) := fun c j h => by rw [ztab_k h, hJ c j h]
      have h := ih (i + 1) _ (by omega) hJ2 hrt
      refine s_X3_strangest_6 (J26 := ztab J 11 (m i) n (zCC I 15 i)) (v26 := C i) hG hR hE hL hrJ (by omega) (by omega) (fun e => absurd e (by omega)) (fun _ => hc) hrt (by omega) (fun _ e => ?_) (fun _ e => ?_)
      · simp only [zsg] at h
        rw [if_pos e] at h
        exact h
      · simp only [zsg] at h
        rw [if_neg (by omega)] at h
        exact h
  exact key N 0 I (by omega) (fun _ _ _ => rfl) hr
abbrev rm_X3_numberAt : Room := { frames := 7, cells := 2, slots := 12, locals := 103 }
set_option maxRecDepth 100000 in
set_option maxHeartbeats 4000000 in
theorem s_X3_numberAt_0 {G : zCx} {F : zFr} {I : zStore} {post : Option Value → zStore → Prop} {px : String → zStore → Prop}{line : Int} {slot : Int} {v12 : Int} (hG : zOK G "LineLearner" cX3_numberAt 3) (hR : zRoom G rm_X3_numberAt) (hE : zRetI G F cX3_numberAt 2 12 post) (hT : zThr G F cX3_numberAt 2 12 px) (hL : zLay F) (hr : zRg I) (hl : -2147483648 ≤ line ∧ line < 2147483648) (hs : -2147483648 ≤ slot ∧ slot < 2147483648) (hn : 0 ≤ I 2 0 ∧ I 2 0 ≤ 12) (hf : 0 ≤ I 15 0 ∧ I 15 0 ≤ 40)
    (k1 : (¬ (0 ≤ line ∧ line < I 2 0)) → px "java/lang/IndexOutOfBoundsException" I)
    (k2 : (0 ≤ line ∧ line < I 2 0) → (¬ (0 ≤ slot ∧ slot < I 15 0)) → px "java/lang/IndexOutOfBoundsException" I)
    (kc12 : (0 ≤ line ∧ line < I 2 0) → (0 ≤ slot ∧ slot < I 15 0) → ∀ (l : Launch) (D : va_G) (cs : Nat → ClassId), l.stackTraces = false → zMt l yX3_numberIn cX3_numberIn 4 (some .int) rm_X3_numberIn D cs F I [.ref (F.1 0), .int (zI line), .int (zI (I 16 slot))] (fun r I' => r = some (.int (zI v12)) ∧ I' = I))
    (hv12 : -2147483648 ≤ v12 ∧ v12 < 2147483648)
    (k5 : (0 ≤ line ∧ line < I 2 0) → (0 ≤ slot ∧ slot < I 15 0) → post (some (.int (zI v12))) I) :
    zW G F 0 0 I [(0, .ref (F.1 0)), (1, .int (zI line)), (2, .int (zI slot))] [] 0 := by
  refine z_aload_n 0 hG dX3_numberAt_0 rfl rfl ?_
  refine z_iload_n 1 hG dX3_numberAt_1 rfl rfl ?_
  refine z_callVX [.int (zI line)] hG hR (c_X3_needLine hL hr (by omega)) hd_X3_needLine kw422 kw424 kp12 rfl (zlt hL (by decide)) (zl0 hL) (by decide) (by decide) (by decide) (by decide) rfl rfl (Nat.le_of_ble_eq_true rfl) dX3_numberAt_2 (fun E I' hp => ?_) (fun r I' hp => ?_)
  · obtain ⟨hI, hx⟩ := hp
    rw [hI]
    obtain ⟨hE9, h⟩ := hx
    subst hE9
    exact hT.2.2 _ _ _ _ _ _ (by decide) (by decide) (k1 h)
  have p2 : 0 ≤ line ∧ line < I 2 0 := hp.1
  rw [hp.2.1, hp.2.2]
  show zW G F 1 6 I [(0, .ref (F.1 0)), (1, .int (zI line)), (2, .int (zI slot))] [] 5
  refine z_aload_n 0 hG dX3_numberAt_5 rfl rfl ?_
  refine z_iload_n 1 hG dX3_numberAt_6 rfl rfl ?_
  refine z_aload_n 0 hG dX3_numberAt_7 rfl rfl ?_
  refine z_iload_n 2 hG dX3_numberAt_8 rfl rfl ?_
  refine z_callVX [.int (zI slot)] hG hR (c_X3_neededSlot hL hr (by omega) (by omega)) hd_X3_neededSlot kw556 kw558 kp16 rfl (zlt hL (by decide)) (zl0 hL) (by decide) (by decide) (by decide) (by decide) rfl rfl (Nat.le_of_ble_eq_true rfl) dX3_numberAt_9 (fun E I' hp => ?_) (fun r I' hp => ?_)
  · obtain ⟨hI, hx⟩ := hp
    rw [hI]
    obtain ⟨hE9, h⟩ := hx
    subst hE9
    exact hT.2.2 _ _ _ _ _ _ (by decide) (by decide) (k2 p2 h)
  have p9 : 0 ≤ slot ∧ slot < I 15 0 := hp.1
  rw [hp.2.1, hp.2.2]
  show zW G F 2 12 I [(0, .ref (F.1 0)), (1, .int (zI line)), (2, .int (zI slot))] [.int (zI (I 16 slot)), .int (zI line), .ref (F.1 0)] 12
  refine z_callV [.int (zI line), .int (zI (I 16 slot))] hG hR (kc12 p2 p9) hd_X3_numberIn kw608 kw610 kp18 rfl (zlt hL (by decide)) (zl0 hL) (by decide) (by decide) (by decide) (by decide) rfl rfl (Nat.le_of_ble_eq_true rfl) dX3_numberAt_12 (fun r I' hp => ?_)
  rw [hp.1, hp.2]
  show zW G F 2 12 I [(0, .ref (F.1 0)), (1, .int (zI line)), (2, .int (zI slot))] [.int (zI v12)] 15
  exact hE _ _ _ _ dX3_numberAt_15 (k5 p2 p9)

abbrev rm_X3_isRising : Room := { frames := 7, cells := 1, slots := 6, locals := 103 }
set_option maxRecDepth 100000 in
set_option maxHeartbeats 4000000 in
theorem s_X3_isRising_0 {G : zCx} {F : zFr} {I : zStore} {post : Option Value → zStore → Prop} {px : String → zStore → Prop}{slot : Int} (hG : zOK G "LineLearner" cX3_isRising 6) (hR : zRoom G rm_X3_isRising) (hE : zRetZ G F cX3_isRising 1 6 post) (hT : zThr G F cX3_isRising 1 6 px) (hL : zLay F) (hr : zRg I) (hs : -2147483648 ≤ slot ∧ slot < 2147483648) (hf : 0 ≤ I 15 0 ∧ I 15 0 ≤ 40) (ho : ∀ _u : Unit, 0 ≤ slot → slot < I 15 0 → 0 ≤ I 16 slot ∧ I 16 slot < 40)
    (k1 : (¬ (0 ≤ slot ∧ slot < I 15 0)) → px "java/lang/IndexOutOfBoundsException" I)
    (k2 : (0 ≤ slot ∧ slot < I 15 0) → ((I 17 (I 16 slot)) ≠ 1) → post (some (.int (zI 0))) I)
    (k3 : (0 ≤ slot ∧ slot < I 15 0) → ((I 17 (I 16 slot)) = 1) → (2 ≤ (I 21 (I 16 slot))) → zW G F 1 6 I [(0, .ref (F.1 0)), (1, .int (zI slot)), (2, .int (zI (I 16 slot))), (3, .int (zI (-1))), (4, .int (zI 0))] [] 39)
    (k4 : (0 ≤ slot ∧ slot < I 15 0) → ((I 17 (I 16 slot)) = 1) → ((I 21 (I 16 slot)) < 2) → post (some (.int (zI 0))) I) :
    zW G F 0 0 I [(0, .ref (F.1 0)), (1, .int (zI slot))] [] 0 := by
  refine z_aload_n 0 hG dX3_isRising_0 rfl rfl ?_
  refine z_iload_n 1 hG dX3_isRising_1 rfl rfl ?_
  refine z_callVX [.int (zI slot)] hG hR (c_X3_neededSlot hL hr (by omega) (by omega)) hd_X3_neededSlot kw556 kw558 kp16 rfl (zlt hL (by decide)) (zl0 hL) (by decide) (by decide) (by decide) (by decide) rfl rfl (Nat.le_of_ble_eq_true rfl) dX3_isRising_2 (fun E I' hp => ?_) (fun r I' hp => ?_)
  · obtain ⟨hI, hx⟩ := hp
    rw [hI]
    obtain ⟨hE9, h⟩ := hx
    subst hE9
    exact hT.2.2 _ _ _ _ _ _ (by decide) (by decide) (k1 h)
  have p2 : 0 ≤ slot ∧ slot < I 15 0 := hp.1
  rw [hp.2.1, hp.2.2]
  show zW G F 1 6 I [(0, .ref (F.1 0)), (1, .int (zI slot))] [.int (zI (I 16 slot))] 5
  refine z_istore_n (lv' := [(2, .int (zI (I 16 slot))), (0, .ref (F.1 0)), (1, .int (zI slot))]) hG dX3_isRising_5 rfl (by decide) rfl ?_
  have q9 := ho () p2.1 p2.2
  refine z_aload_n 1 hG dX3_isRising_6 rfl rfl ?_
  refine z_getR (t := 15) hG zcl3 (zlt hL (by decide)) (zl0 hL) 4 (by decide) rfl kw163 dX3_isRising_7 ?_
  refine z_getRN (t := 17) hG zcl1 (zlt hL (by decide)) (zl15 hL) 3 (by decide) rfl kw129 dX3_isRising_10 ?_
  refine z_iload_n 0 hG dX3_isRising_13 rfl rfl ?_
  refine z_iald (v := I 17 (I 16 slot)) hG (zlt hL (by decide)) (zl17 hL) (by decide) (by omega) rfl dX3_isRising_14 ?_
  refine z_iconst 1 hG dX3_isRising_15 ?_
  refine z_icmp_ne (tgt := 32) hG dX3_isRising_16 (by decide) (hr _ _) (by decide) (fun c16 => ?_) (fun c16 => ?_)
  · skip
    refine z_iconst 0 hG dX3_isRising_32 ?_
    exact hE _ _ _ _ dX3_isRising_33 (by first | decide | omega) (k2 p2 c16)
  · skip
    refine z_aload_n 1 hG dX3_isRising_19 rfl rfl ?_
    refine z_getR (t := 15) hG zcl3 (zlt hL (by decide)) (zl0 hL) 4 (by decide) rfl kw163 dX3_isRising_20 ?_
    refine z_getRN (t := 21) hG zcl1 (zlt hL (by decide)) (zl15 hL) 7 (by decide) rfl kw140 dX3_isRising_23 ?_
    refine z_iload_n 0 hG dX3_isRising_26 rfl rfl ?_
    refine z_iald (v := I 21 (I 16 slot)) hG (zlt hL (by decide)) (zl21 hL) (by decide) (by omega) rfl dX3_isRising_27 ?_
    refine z_iconst 2 hG dX3_isRising_28 ?_
    refine z_icmp_ge (tgt := 34) hG dX3_isRising_29 (by decide) (hr _ _) (by decide) (fun c29 => ?_) (fun c29 => ?_)
    · skip
      refine z_iconst (-1) hG dX3_isRising_34 ?_
      refine z_istore_n (lv' := [(3, .int (zI (-1))), (2, .int (zI (I 16 slot))), (0, .ref (F.1 0)), (1, .int (zI slot))]) hG dX3_isRising_35 rfl (by decide) rfl ?_
      refine z_iconst 0 hG dX3_isRising_36 ?_
      refine z_istore (lv' := [(4, .int (zI 0)), (3, .int (zI (-1))), (2, .int (zI (I 16 slot))), (0, .ref (F.1 0)), (1, .int (zI slot))]) hG dX3_isRising_37 (by decide) rfl ?_
      refine z_perm (lv' := [(0, .ref (F.1 0)), (1, .int (zI slot)), (2, .int (zI (I 16 slot))), (3, .int (zI (-1))), (4, .int (zI 0))]) [3, 4, 2, 1, 0] rfl ?_
      exact k3 p2 c16 c29
    · skip
      refine z_iconst 0 hG dX3_isRising_32 ?_
      exact hE _ _ _ _ dX3_isRising_33 (by first | decide | omega) (k4 p2 c16 c29)

set_option maxRecDepth 100000 in
set_option maxHeartbeats 4000000 in
theorem s_X3_isRising_39 {G : zCx} {F : zFr} {I : zStore} {post : Option Value → zStore → Prop} {px : String → zStore → Prop}{slot id last line : Int} {v66 : Int} (hG : zOK G "LineLearner" cX3_isRising 6) (hR : zRoom G rm_X3_isRising) (hE : zRetZ G F cX3_isRising 1 6 post) (hT : zThr G F cX3_isRising 1 6 px) (hL : zLay F) (hr : zRg I) (h1 : 0 ≤ line ∧ line ≤ 12 ∧ I 2 0 ≤ 12) (h2 : -2147483648 ≤ last ∧ last < 2147483648) (g1 : ∀ _u : Unit, line < I 2 0 → (0 ≤ I 22 line ∧ I 22 line ≤ 1) ∧ 0 ≤ I 4 line ∧ I 4 line ≤ 30) (h5 : -2147483648 ≤ id ∧ id < 2147483648)
    (k1 : ((I 2 0) ≤ line) → post (some (.int (zI 1))) I)
    (k2 : (line < (I 2 0)) → ((zti I line id) = (-1)) → zW G F 1 6 I [(0, .ref (F.1 0)), (1, .int (zI slot)), (2, .int (zI id)), (3, .int (zI last)), (4, .int (zI (line + 1)))] [] 39)
    (kc66 : (line < (I 2 0)) → ((zti I line id) ≠ (-1)) → ∀ (l : Launch) (D : va_G) (cs : Nat → ClassId), l.stackTraces = false → zMt l yX3_numberIn cX3_numberIn 4 (some .int) rm_X3_numberIn D cs F I [.ref (F.1 0), .int (zI line), .int (zI id)] (fun r I' => r = some (.int (zI v66)) ∧ I' = I))
    (hv66 : -2147483648 ≤ v66 ∧ v66 < 2147483648)
    (k5 : (line < (I 2 0)) → ((zti I line id) ≠ (-1)) → (last < v66) → zW G F 1 6 I [(0, .ref (F.1 0)), (1, .int (zI slot)), (2, .int (zI id)), (3, .int (zI v66)), (4, .int (zI (line + 1)))] [] 39)
    (k6 : (line < (I 2 0)) → ((zti I line id) ≠ (-1)) → (v66 ≤ last) → post (some (.int (zI 0))) I) :
    zW G F 1 6 I [(0, .ref (F.1 0)), (1, .int (zI slot)), (2, .int (zI id)), (3, .int (zI last)), (4, .int (zI line))] [] 39 := by
  refine z_iload 4 hG dX3_isRising_39 rfl ?_
  refine z_aload_n 0 hG dX3_isRising_41 rfl rfl ?_
  refine z_getR (t := 2) hG zcl3 (zlt hL (by decide)) (zl0 hL) 2 (by decide) rfl kw161 dX3_isRising_42 ?_
  refine z_getIN (v := I 2 0) hG zcl2 (zlt hL (by decide)) (zl2 hL) 0 (by decide) rfl rfl rfl kw29 dX3_isRising_45 ?_
  refine z_icmp_ge (tgt := 88) hG dX3_isRising_48 (by decide) (by omega) (hr _ _) (fun c48 => ?_) (fun c48 => ?_)
  · skip
    refine z_iconst 1 hG dX3_isRising_88 ?_
    exact hE _ _ _ _ dX3_isRising_89 (by first | decide | omega) (k1 c48)
  · skip
    have q9 := g1 () c48
    refine z_aload_n 0 hG dX3_isRising_51 rfl rfl ?_
    refine z_iload 4 hG dX3_isRising_52 rfl ?_
    refine z_iload_n 2 hG dX3_isRising_54 rfl rfl ?_
    refine z_callV [.int (zI line), .int (zI id)] hG hR (c_X3_tokenIn hL hr (by omega) (by omega) (by omega) (by omega)) hd_X3_tokenIn kw597 kw599 kp17 rfl (zlt hL (by decide)) (zl0 hL) (by decide) (by decide) (by decide) (by decide) rfl rfl (Nat.le_of_ble_eq_true rfl) dX3_isRising_55 (fun r I' hp => ?_)
    rw [hp.1, hp.2]
    have ha55_0 : -1 ≤ (zti I line id) ∧ (zti I line id) < 30 ∧ (zti I line id) < I 4 line ∨ I 4 line = 0 ∧ (zti I line id) = -1 := zti_bd (by omega)
    show zW G F 1 6 I [(0, .ref (F.1 0)), (1, .int (zI slot)), (2, .int (zI id)), (3, .int (zI last)), (4, .int (zI line))] [.int (zI (zti I line id))] 58
    refine z_iconst (-1) hG dX3_isRising_58 ?_
    refine z_icmp_eq (tgt := 82) hG dX3_isRising_59 (by decide) (by omega) (by decide) (fun c59 => ?_) (fun c59 => ?_)
    · skip
      refine z_iinc (lv' := [(4, .int (zI (line + 1))), (0, .ref (F.1 0)), (1, .int (zI slot)), (2, .int (zI id)), (3, .int (zI last))]) 4 hG dX3_isRising_82 rfl (by decide) rfl ?_
      refine z_goto (tgt := 39) hG dX3_isRising_85 (by decide) ?_
      refine z_perm (lv' := [(0, .ref (F.1 0)), (1, .int (zI slot)), (2, .int (zI id)), (3, .int (zI last)), (4, .int (zI (line + 1)))]) [1, 2, 3, 4, 0] rfl ?_
      exact k2 c48 c59
    · skip
      refine z_aload_n 0 hG dX3_isRising_62 rfl rfl ?_
      refine z_iload 4 hG dX3_isRising_63 rfl ?_
      refine z_iload_n 2 hG dX3_isRising_65 rfl rfl ?_
      refine z_callV [.int (zI line), .int (zI id)] hG hR (kc66 c48 c59) hd_X3_numberIn kw608 kw610 kp18 rfl (zlt hL (by decide)) (zl0 hL) (by decide) (by decide) (by decide) (by decide) rfl rfl (Nat.le_of_ble_eq_true rfl) dX3_isRising_66 (fun r I' hp => ?_)
      rw [hp.1, hp.2]
      show zW G F 1 6 I [(0, .ref (F.1 0)), (1, .int (zI slot)), (2, .int (zI id)), (3, .int (zI last)), (4, .int (zI line))] [.int (zI v66)] 69
      refine z_istore (lv' := [(5, .int (zI v66)), (0, .ref (F.1 0)), (1, .int (zI slot)), (2, .int (zI id)), (3, .int (zI last)), (4, .int (zI line))]) hG dX3_isRising_69 (by decide) rfl ?_
      refine z_iload 0 hG dX3_isRising_71 rfl ?_
      refine z_iload_n 4 hG dX3_isRising_73 rfl rfl ?_
      refine z_icmp_gt (tgt := 79) hG dX3_isRising_74 (by decide) (by omega) (by omega) (fun c74 => ?_) (fun c74 => ?_)
      · skip
        refine z_iload 0 hG dX3_isRising_79 rfl ?_
        refine z_istore_n (lv' := [(3, .int (zI v66)), (5, .int (zI v66)), (0, .ref (F.1 0)), (1, .int (zI slot)), (2, .int (zI id)), (4, .int (zI line))]) hG dX3_isRising_81 rfl (by decide) rfl ?_
        refine z_iinc (lv' := [(4, .int (zI (line + 1))), (3, .int (zI v66)), (5, .int (zI v66)), (0, .ref (F.1 0)), (1, .int (zI slot)), (2, .int (zI id))]) 5 hG dX3_isRising_82 rfl (by decide) rfl ?_
        refine z_goto (tgt := 39) hG dX3_isRising_85 (by decide) ?_
        refine z_perm (lv' := [(0, .ref (F.1 0)), (1, .int (zI slot)), (2, .int (zI id)), (3, .int (zI v66)), (4, .int (zI (line + 1)))]) [3, 4, 5, 1, 0] rfl ?_
        exact k5 c48 c59 c74
      · skip
        refine z_iconst 0 hG dX3_isRising_77 ?_
        exact hE _ _ _ _ dX3_isRising_78 (by first | decide | omega) (k6 c48 c59 c74)

/-- every number of the slot id can be read -/
def zNb (I : zStore) (id : Int) (n : Int) : Prop := ∀ line : Int, 0 ≤ line → line < n → zti I line id ≠ (-1) → I 17 id = 1 → zTk I (line * 30 + zti I line id) ∧ 0 ≤ zno I (line * 30 + zti I line id) ∧ zno I (line * 30 + zti I line id) < 2147483648
theorem znb_rg {I : zStore} {id n line : Int} (h : zNb I id n) (h0 : 0 ≤ line) (h1 : line < n) : -1 ≤ znb I line id ∧ znb I line id < 2147483648 := by
  unfold znb
  split
  · rename_i q
    have h2 := h line h0 h1 q.1 q.2
    omega
  · omega
theorem c_X3_numberAt {F : zFr} {I : zStore} {line slot : Int} (hL : zLay F) (hr : zRg I) (hl : -2147483648 ≤ line ∧ line < 2147483648) (hs : -2147483648 ≤ slot ∧ slot < 2147483648) (hn : 0 ≤ I 2 0 ∧ I 2 0 ≤ 12) (hf : 0 ≤ I 15 0 ∧ I 15 0 ≤ 40) (hln : zLn I (I 2 0)) (ho : ∀ s : Int, 0 ≤ s → s < I 15 0 → 0 ≤ I 16 s ∧ I 16 s < 40) (hnb : ∀ s : Int, 0 ≤ s → s < I 15 0 → zNb I (I 16 s) (I 2 0)) : ∀ (l : Launch) (D : va_G) (cs : Nat → ClassId), l.stackTraces = false → zMx l yX3_numberAt cX3_numberAt 3 (some .int) rm_X3_numberAt D cs F I [.ref (F.1 0), .int (zI line), .int (zI slot)] (fun r I' => ((0 ≤ line ∧ line < I 2 0) ∧ 0 ≤ slot ∧ slot < I 15 0) ∧ r = some (.int (zI (znb I line (I 16 slot)))) ∧ I' = I) (fun E I' => I' = I ∧ (E = "java/lang/IndexOutOfBoundsException" ∧ ¬ ((0 ≤ line ∧ line < I 2 0) ∧ 0 ≤ slot ∧ slot < I 15 0))) := by
  intro l D cs hst
  refine zMx.ofI hst (by decide +kernel) rfl (Nat.le_of_ble_eq_true rfl) fun G hG hR hE hT => ?_
  by_cases q : (0 ≤ line ∧ line < I 2 0) ∧ 0 ≤ slot ∧ slot < I 15 0
  · have h1 := hln line q.1.1 q.1.2
    have h2 := ho slot q.2.1 q.2.2
    have h3 := hnb slot q.2.1 q.2.2
    have h4 := znb_rg h3 q.1.1 q.1.2
    exact s_X3_numberAt_0 (v12 := znb I line (I 16 slot)) hG hR hE hT hL hr hl hs hn hf (fun e => absurd q.1 e) (fun _ e => absurd q.2 e) (fun _ _ => c_X3_numberIn hL hr (by omega) h1.1 h1.2 (by omega) h2 (fun _ => h3 line q.1.1 q.1.2)) (by omega) (fun _ _ => ⟨q, rfl, rfl⟩)
  · exact s_X3_numberAt_0 (v12 := 0) hG hR hE hT hL hr hl hs hn hf (fun e => ⟨rfl, rfl, fun h => e h.1⟩) (fun _ e => ⟨rfl, rfl, fun h => e h.2⟩) (fun e1 e2 => absurd ⟨e1, e2⟩ q) (by omega) (fun e1 e2 => absurd ⟨e1, e2⟩ q)
/-- do the numbers rise so far, and the last of them -/
def zrs (t nb : Nat → Int) : Nat → Bool × Int
  | 0 => (true, -1)
  | l + 1 => if t l = (-1) then zrs t nb l else if nb l ≤ (zrs t nb l).2 then (false, (zrs t nb l).2) else ((zrs t nb l).1, nb l)
theorem zrs_f {t nb : Nat → Int} {l : Nat} (h : (zrs t nb l).1 = false) : ∀ d : Nat, (zrs t nb (l + d)).1 = false
  | 0 => h
  | d + 1 => by
    have h1 := zrs_f h d
    rw [← Nat.add_assoc]
    simp only [zrs]
    split
    · exact h1
    · split
      · rfl
      · exact h1
theorem zrs_rg {t nb : Nat → Int} : ∀ l : Nat, (∀ i, i < l → -1 ≤ nb i ∧ nb i < 2147483648) → -1 ≤ (zrs t nb l).2 ∧ (zrs t nb l).2 < 2147483648
  | 0, _ => by simp only [zrs]; omega
  | l + 1, h => by
    have h1 := zrs_rg (t := t) (nb := nb) l fun i hi => h i (by omega)
    have h2 := h l (by omega)
    simp only [zrs]
    repeat' split
    all_goals (try dsimp only); omega
/-- is the slot id rising -/
def zrise (I : zStore) (id : Int) (n : Nat) : Bool := decide (I 17 id = 1 ∧ 2 ≤ I 21 id) && (zrs (fun l => zti I l id) (fun l => znb I l id) n).1
set_option maxHeartbeats 4000000 in
theorem c_X3_isRising {F : zFr} {I : zStore} {slot : Int} {N : Nat} (hL : zLay F) (hr : zRg I) (hs : -2147483648 ≤ slot ∧ slot < 2147483648) (hN : I 2 0 = N) (hN2 : N ≤ 12) (hf : 0 ≤ I 15 0 ∧ I 15 0 ≤ 40) (hln : zLn I N) (ho : ∀ s : Int, 0 ≤ s → s < I 15 0 → 0 ≤ I 16 s ∧ I 16 s < 40) (hnb : ∀ s : Int, 0 ≤ s → s < I 15 0 → zNb I (I 16 s) N) : ∀ (l : Launch) (D : va_G) (cs : Nat → ClassId), l.stackTraces = false → zMx l yX3_isRising cX3_isRising 6 (some .boolean) rm_X3_isRising D cs F I [.ref (F.1 0), .int (zI slot)] (fun r I' => (0 ≤ slot ∧ slot < I 15 0) ∧ r = some (.int (zI (zb (zrise I (I 16 slot) N)))) ∧ I' = I) (fun E I' => I' = I ∧ (E = "java/lang/IndexOutOfBoundsException" ∧ ¬ (0 ≤ slot ∧ slot < I 15 0))) := by
  intro l D cs hst
  refine zMx.ofZ hst (by decide +kernel) rfl (Nat.le_of_ble_eq_true rfl) fun G hG hR hE hT => ?_
  have no : ∀ q : 0 ≤ slot ∧ slot < I 15 0, ¬ (I 17 (I 16 slot) = 1 ∧ 2 ≤ I 21 (I 16 slot)) → ((0 ≤ slot ∧ slot < I 15 0) ∧ some (Value.int (zI 0)) = some (.int (zI (zb (zrise I (I 16 slot) N)))) ∧ I = I) := fun q e => by
    refine ⟨q, ?_, rfl⟩
    unfold zrise
    rw [decide_eq_false e]
    rfl
  refine s_X3_isRising_0 hG hR hE hT hL hr hs hf (fun _ => ho slot) (fun e => ⟨rfl, rfl, e⟩) (fun q e => no q fun h => e h.1) (fun q e1 e2 => ?_) (fun q _ e => no q fun h => absurd h.2 (by omega))
  have hid := ho slot q.1 q.2
  have hb := hnb slot q.1 q.2
  have hk : ∀ x : Nat, x < N → -1 ≤ znb I x (I 16 slot) ∧ znb I x (I 16 slot) < 2147483648 := fun x hx => znb_rg hb (by omega) (by omega)
  generalize ht : (fun l : Nat => zti I l (I 16 slot)) = t
  generalize hn : (fun l : Nat => znb I l (I 16 slot)) = nb
  have ht1 : ∀ x : Nat, zti I x (I 16 slot) = t x := fun x => by rw [← ht]
  have hn1 : ∀ x : Nat, znb I x (I 16 slot) = nb x := fun x => by rw [← hn]
  have hres : ∀ x : Bool, (zrs t nb N).1 = x → zrise I (I 16 slot) N = x := fun x h => by
    unfold zrise
    rw [ht, hn, h, decide_eq_true ⟨e1, e2⟩]
    rfl
  have key : ∀ (d i : Nat), i + d = N → (zrs t nb i).1 = true → zW G F 1 6 I [(0, .ref (F.1 0)), (1, .int (zI slot)), (2, .int (zI (I 16 slot))), (3, .int (zI (zrs t nb i).2)), (4, .int (zI i))] [] 39 := by
    intro d
    induction d with
    | zero =>
      intro i hi hb1
      have e : i = N := by omega
      subst e
      have hrg := zrs_rg (t := t) (nb := nb) i fun x hx => by rw [← hn1]; exact hk x hx
      refine s_X3_isRising_39 (v66 := 0) hG hR hE hT hL hr (by omega) (by omega) (fun _ e => absurd e (by omega)) (by omega) (fun _ => ⟨q, ?_, rfl⟩) (fun e => absurd e (by omega)) (fun e => absurd e (by omega)) (by omega) (fun e => absurd e (by omega)) (fun e => absurd e (by omega))
      rw [hres true hb1]
      rfl
    | succ d ih =>
      intro i hi hb1
      have hrg := zrs_rg (t := t) (nb := nb) i fun x hx => by rw [← hn1]; exact hk x (by omega)
      have hki := hk i (by omega)
      have hli := hln i (by omega) (by omega)
      have h := ih (i + 1) (by omega)
      have hs : zrs t nb (i + 1) = if t i = (-1) then zrs t nb i else if nb i ≤ (zrs t nb i).2 then (false, (zrs t nb i).2) else ((zrs t nb i).1, nb i) := rfl
      rw [hs] at h
      refine s_X3_isRising_39 (v66 := nb i) hG hR hE hT hL hr (by omega) (by omega) (fun _ _ => hli) (by omega) (fun e => absurd e (by omega)) (fun _ e => ?_) (fun _ _ => ?_) (by rw [← hn1]; omega) (fun _ e e3 => ?_) (fun _ e e3 => ?_)
      · rw [ht1] at e
        rw [if_pos e] at h
        exact h hb1
      · rw [← hn1]
        exact c_X3_numberIn hL hr (by omega) hli.1 hli.2 (by omega) hid (fun _ => hb i (by omega) (by omega))
      · rw [ht1] at e
        rw [if_neg e, if_neg (by omega)] at h
        exact h hb1
      · rw [ht1] at e
        refine ⟨q, ?_, rfl⟩
        rw [if_neg e, if_pos e3] at hs
        have hf := zrs_f (t := t) (nb := nb) (l := i + 1) (by rw [hs]) d
        rw [show i + 1 + d = N by omega] at hf
        rw [hres false hf]
        rfl
  exact key N 0 (by omega) rfl
