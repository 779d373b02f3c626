def zno (I : zStore) (p : Int) : Int := znum (I 5) (max (I 7 p) (((I 7 p) + (I 8 p)) - 9)) (((I 7 p) + (I 8 p)) - (max (I 7 p) (((I 7 p) + (I 8 p)) - 9))).toNat
/-- the number that the line tells in the slot id, -1 if there is none -/
def znb (I : zStore) (line id : Int) : Int := if zti I line id ≠ (-1) ∧ I 17 id = 1 then zno I (line * 30 + zti I line id) else (-1)
theorem c_X3_numberIn {F : zFr} {I : zStore} {line id : Int} (hL : zLay F) (hr : zRg I) (h1 : 0 ≤ line ∧ line < 12) (h2 : 0 ≤ I 22 line ∧ I 22 line ≤ 1) (h3 : 0 ≤ I 4 line ∧ I 4 line ≤ 30) (h4 : -2147483648 ≤ id ∧ id < 2147483648) (h5 : 0 ≤ id ∧ id < 40) (h6 : ∀ _u : Unit, zti I line id ≠ (-1) → I 17 id = 1 → zTk I (line * 30 + zti I line id) ∧ 0 ≤ zno I (line * 30 + zti I line id) ∧ zno I (line * 30 + zti I line id) < 2147483648) : ∀ (l : Launch) (D : va_G) (cs : Nat → ClassId), l.stackTraces = false → zMt l yX3_numberIn cX3_numberIn 4 (some .int) rm_X3_numberIn D cs F I [.ref (F.1 0), .int (zI line), .int (zI id)] (fun r I' => r = some (.int (zI (znb I line id))) ∧ I' = I) := by
  intro l D cs hst
  refine zMt.ofI hst (by decide +kernel) (Nat.le_of_ble_eq_true rfl) fun G hG hR hE => ?_
  by_cases q : zti I line id ≠ (-1) ∧ I 17 id = 1
  · have h := h6 () q.1 q.2
    exact s_X3_numberIn_0 (v36 := zno I (line * 30 + zti I line id)) hG hR hE hL hr h1 h2 h3 h4 h5 (fun e => absurd e q.1) (fun _ _ => c_X2_numberOf hL hr h.1) (by omega) (fun _ _ => ⟨by unfold znb; rw [if_pos q], rfl⟩) (fun _ e => absurd q.2 e)
  · exact s_X3_numberIn_0 (v36 := 0) hG hR hE hL hr h1 h2 h3 h4 h5 (fun _ => ⟨by unfold znb; rw [if_neg q], rfl⟩) (fun e1 e2 => absurd ⟨e1, e2⟩ q) (by omega) (fun e1 e2 => absurd ⟨e1, e2⟩ q) (fun _ _ => ⟨by unfold znb; rw [if_neg q], rfl⟩)
/-- how many tokens at the front are the same -/
def zfront (I : zStore) (a c : Int) : Nat := fa_first (fun t => I 9 (a * 30 + t) != I 9 (c * 30 + t)) (min (I 4 a) (I 4 c)).toNat
set_option maxHeartbeats 4000000 in
theorem c_X3_sameAtFront {F : zFr} {I : zStore} {a c : Int} (hL : zLay F) (hr : zRg I) (h1 : -2147483648 ≤ a ∧ a < 2147483648) (h2 : -2147483648 ≤ c ∧ c < 2147483648) (hn : 0 ≤ I 2 0 ∧ I 2 0 ≤ 12) (hm : ∀ line : Int, 0 ≤ line → line < I 2 0 → 0 ≤ I 4 line ∧ I 4 line ≤ 30) : ∀ (l : Launch) (D : va_G) (cs : Nat → ClassId), l.stackTraces = false → zMx l yX3_sameAtFront cX3_sameAtFront 5 (some .int) rm_X3_sameAtFront D cs F I [.ref (F.1 0), .int (zI a), .int (zI c)] (fun r I' => ((0 ≤ a ∧ a < I 2 0) ∧ 0 ≤ c ∧ c < I 2 0) ∧ r = some (.int (zI (zfront I a c))) ∧ I' = I) (fun E I' => I' = I ∧ (E = "java/lang/IndexOutOfBoundsException" ∧ ¬ ((0 ≤ a ∧ a < I 2 0) ∧ 0 ≤ c ∧ c < I 2 0))) := by
  intro l D cs hst
  refine zMx.ofI hst (by decide +kernel) rfl (Nat.le_of_ble_eq_true rfl) fun G hG hR hE hT => ?_
  refine s_X3_sameAtFront_0 hG hR hE hT hL hr h1 h2 hn (fun e => ⟨rfl, rfl, fun q => e q.1⟩) (fun _ e => ⟨rfl, rfl, fun q => e q.2⟩) (fun ea ec => ?_)
  have ma := hm a ea.1 ea.2
  have mc := hm c ec.1 ec.2
  have key : ∀ (d t : Nat), (t : Int) + d = min (I 4 a) (I 4 c) → (∀ j : Nat, j < t → I 9 (a * 30 + j) = I 9 (c * 30 + j)) → zW G F 2 12 I [(0, .ref (F.1 0)), (1, .int (zI a)), (2, .int (zI c)), (3, .int (zI (min (I 4 a) (I 4 c)))), (4, .int (zI t))] [] 35 := by
    intro d
    induction d with
    | zero =>
      intro t ht hj
      refine s_X3_sameAtFront_35 hG hR hE hT hL hr (by omega) (by omega) (by omega) (fun _ => ⟨⟨ea, ec⟩, ?_, rfl⟩) (fun h => absurd h (by omega)) (fun h => absurd h (by omega))
      unfold zfront
      rw [fa_first_all (p := fun t : Nat => I 9 (a * 30 + t) != I 9 (c * 30 + t)) (fun j h => by show (I 9 (a * 30 + j) != I 9 (c * 30 + j)) = false; rw [hj j (by omega)]; exact bne_self_eq_false _)]
      congr 3
      omega
    | succ d ih =>
      intro t ht hj
      refine s_X3_sameAtFront_35 hG hR hE hT hL hr (by omega) (by omega) (by omega) (fun h => absurd h (by omega)) (fun _ e => ⟨⟨ea, ec⟩, ?_, rfl⟩) (fun _ e => ?_)
      · unfold zfront
        have ef : fa_first (fun t : Nat => I 9 (a * 30 + t) != I 9 (c * 30 + t)) (min (I 4 a) (I 4 c)).toNat = t := fa_first_eq (p := fun t : Nat => I 9 (a * 30 + t) != I 9 (c * 30 + t)) (by omega) (bne_iff_ne.mpr e) (fun j h => by show (I 9 (a * 30 + j) != I 9 (c * 30 + j)) = false; rw [hj j h]; exact bne_self_eq_false _)
        rw [ef]
      · refine ih (t + 1) (by omega) (fun j h => ?_)
        rcases Nat.lt_or_ge j t with h2 | h2
        · exact hj j h2
        · rw [show j = t by omega]
          exact e
  exact key (min (I 4 a) (I 4 c)).toNat 0 (by omega) (fun j h => absurd h (by omega))
/-- the store behind clear -/
def zclr (I : zStore) : zStore := zfl (zup (zup I 15 0 0) 15 1 0) 22 0 12 (fun _ => 0)
theorem c_X3_clear {F : zFr} {I : zStore} (hL : zLay F) (hr : zRg I) : ∀ (l : Launch) (D : va_G) (cs : Nat → ClassId), l.stackTraces = false → zMt l yX3_clear cX3_clear 3 (some .int) rm_X3_clear D cs F I [.ref (F.1 0)] (fun r I' => r = some (.int (zI (I 15 1))) ∧ I' = zclr I) := by
  intro l D cs hst
  refine zMt.ofI hst (by decide +kernel) (Nat.le_of_ble_eq_true rfl) fun G hG hR hE => ?_
  refine s_X3_clear_0 hG hR hE hL hr ?_
  have hr0 : zRg (zup (zup I 15 0 0) 15 1 0) := zRg_up (zRg_up hr (by decide)) (by decide)
  have key : ∀ (d i : Nat), i + d = 12 → zW G F 0 0 (zfl (zup (zup I 15 0 0) 15 1 0) 22 0 i (fun _ => 0)) [(0, .ref (F.1 0)), (1, .int (zI (I 15 1))), (2, .int (zI i))] [] 17 := by
    intro d
    induction d with
    | zero =>
      intro i hi
      have e : i = 12 := by omega
      subst e
      exact s_X3_clear_17 hG hR hE hL (zRg_fl hr0 (fun k _ => by decide)) (by omega) (fun _ => ⟨rfl, rfl⟩) (fun h => absurd h (by omega))
    | succ d ih =>
      intro i hi
      refine s_X3_clear_17 hG hR hE hL (zRg_fl hr0 (fun k _ => by decide)) (by omega) (fun h => absurd h (by omega)) (fun _ => ?_)
      rw [zfl_up rfl (by omega)]
      exact ih (i + 1) (by omega)
  have h := key 12 0 (by omega)
  rw [zfl_0] at h
  exact h
abbrev rm_X3_costWith : Room := { frames := 7, cells := 1, slots := 6, locals := 103 }
set_option maxRecDepth 100000 in
set_option maxHeartbeats 4000000 in
theorem s_X3_costWith_0 {G : zCx} {F : zFr} {I : zStore} {post : Option Value → zStore → Prop} {px : String → zStore → Prop}{line : Int} {J14 : zStore} {v14 : Int} (hG : zOK G "LineLearner" cX3_costWith 2) (hR : zRoom G rm_X3_costWith) (hE : zRetI G F cX3_costWith 1 6 post) (hT : zThr G F cX3_costWith 1 6 px) (hL : zLay F) (hr : zRg I) (hl : -2147483648 ≤ line ∧ line < 2147483648) (hn : 0 ≤ I 2 0 ∧ I 2 0 ≤ 12)
    (k1 : (¬ (0 ≤ line ∧ line < I 2 0)) → px "java/lang/IndexOutOfBoundsException" I)
    (kc14 : (0 ≤ line ∧ line < I 2 0) → ∀ (l : Launch) (D : va_G) (cs : Nat → ClassId), l.stackTraces = false → zMt l yX0_leastCost cX0_leastCost 5 (some .int) rm_X0_leastCost D cs F I [.ref (F.1 10), .ref (F.1 15), .int (zI line)] (fun r I' => r = some (.int (zI v14)) ∧ I' = J14))
    (hrJ14 : zRg J14)
    (hv14 : -2147483648 ≤ v14 ∧ v14 < 2147483648)
    (k5 : (0 ≤ line ∧ line < I 2 0) → post (some (.int (zI v14))) J14) :
    zW G F 0 0 I [(0, .ref (F.1 0)), (1, .int (zI line))] [] 0 := by
  refine z_aload_n 0 hG dX3_costWith_0 rfl rfl ?_
  refine z_iload_n 1 hG dX3_costWith_1 rfl rfl ?_
  refine z_callVX [.int (zI line)] hG hR (c_X3_needLine hL hr (by omega)) hd_X3_needLine kw422 kw424 kp12 rfl (zlt hL (by decide)) (zl0 hL) (by decide) (by decide) (by decide) (by decide) rfl rfl (Nat.le_of_ble_eq_true rfl) dX3_costWith_2 (fun E I' hp => ?_) (fun r I' hp => ?_)
  · obtain ⟨hI, hx⟩ := hp
    rw [hI]
    obtain ⟨hE9, h⟩ := hx
    subst hE9
    exact hT.2.2 _ _ _ _ _ _ (by decide) (by decide) (k1 h)
  have p2 : 0 ≤ line ∧ line < I 2 0 := hp.1
  rw [hp.2.1, hp.2.2]
  show zW G F 1 6 I [(0, .ref (F.1 0)), (1, .int (zI line))] [] 5
  refine z_aload_n 0 hG dX3_costWith_5 rfl rfl ?_
  refine z_getR (t := 10) hG zcl3 (zlt hL (by decide)) (zl0 hL) 3 (by decide) rfl kw162 dX3_costWith_6 ?_
  refine z_aload_n 0 hG dX3_costWith_9 rfl rfl ?_
  refine z_getR (t := 15) hG zcl3 (zlt hL (by decide)) (zl0 hL) 4 (by decide) rfl kw163 dX3_costWith_10 ?_
  refine z_iload_n 1 hG dX3_costWith_13 rfl rfl ?_
  refine z_callV [.ref (F.1 15), .int (zI line)] hG hR (kc14 p2) hd_X0_leastCost kw209 kw210 kw211 rfl (zlt hL (by decide)) (zl10 hL) (by decide) (by decide) (by decide) (by decide) rfl rfl (Nat.le_of_ble_eq_true rfl) dX3_costWith_14 (fun r I' hp => ?_)
  rw [hp.1, hp.2]
  show zW G F 1 6 J14 [(0, .ref (F.1 0)), (1, .int (zI line))] [.int (zI v14)] 17
  exact hE _ _ _ _ dX3_costWith_17 (k5 p2)

abbrev rm_X3_fits : Room := { frames := 7, cells := 1, slots := 6, locals := 103 }
set_option maxRecDepth 100000 in
set_option maxHeartbeats 4000000 in
theorem s_X3_fits_0 {G : zCx} {F : zFr} {I : zStore} {post : Option Value → zStore → Prop} {px : String → zStore → Prop}{line : Int} {J14 : zStore} {v14 : Int} (hG : zOK G "LineLearner" cX3_fits 2) (hR : zRoom G rm_X3_fits) (hE : zRetZ G F cX3_fits 1 6 post) (hT : zThr G F cX3_fits 1 6 px) (hL : zLay F) (hr : zRg I) (hl : -2147483648 ≤ line ∧ line < 2147483648) (hn : 0 ≤ I 2 0 ∧ I 2 0 ≤ 12)
    (k1 : (¬ (0 ≤ line ∧ line < I 2 0)) → px "java/lang/IndexOutOfBoundsException" I)
    (kc14 : (0 ≤ line ∧ line < I 2 0) → ∀ (l : Launch) (D : va_G) (cs : Nat → ClassId), l.stackTraces = false → zMt l yX0_isMatch cX0_isMatch 8 (some .boolean) rm_X0_isMatch D cs F I [.ref (F.1 10), .ref (F.1 15), .int (zI line)] (fun r I' => r = some (.int (zI v14)) ∧ I' = J14))
    (hrJ14 : zRg J14)
    (hv14 : v14 = 0 ∨ v14 = 1)
    (k5 : (0 ≤ line ∧ line < I 2 0) → post (some (.int (zI v14))) J14) :
    zW G F 0 0 I [(0, .ref (F.1 0)), (1, .int (zI line))] [] 0 := by
  refine z_aload_n 0 hG dX3_fits_0 rfl rfl ?_
  refine z_iload_n 1 hG dX3_fits_1 rfl rfl ?_
  refine z_callVX [.int (zI line)] hG hR (c_X3_needLine hL hr (by omega)) hd_X3_needLine kw422 kw424 kp12 rfl (zlt hL (by decide)) (zl0 hL) (by decide) (by decide) (by decide) (by decide) rfl rfl (Nat.le_of_ble_eq_true rfl) dX3_fits_2 (fun E I' hp => ?_) (fun r I' hp => ?_)
  · obtain ⟨hI, hx⟩ := hp
    rw [hI]
    obtain ⟨hE9, h⟩ := hx
    subst hE9
    exact hT.2.2 _ _ _ _ _ _ (by decide) (by decide) (k1 h)
  have p2 : 0 ≤ line ∧ line < I 2 0 := hp.1
  rw [hp.2.1, hp.2.2]
  show zW G F 1 6 I [(0, .ref (F.1 0)), (1, .int (zI line))] [] 5
  refine z_aload_n 0 hG dX3_fits_5 rfl rfl ?_
  refine z_getR (t := 10) hG zcl3 (zlt hL (by decide)) (zl0 hL) 3 (by decide) rfl kw162 dX3_fits_6 ?_
  refine z_aload_n 0 hG dX3_fits_9 rfl rfl ?_
  refine z_getR (t := 15) hG zcl3 (zlt hL (by decide)) (zl0 hL) 4 (by decide) rfl kw163 dX3_fits_10 ?_
  refine z_iload_n 1 hG dX3_fits_13 rfl rfl ?_
  refine z_callV [.ref (F.1 15), .int (zI line)] hG hR (kc14 p2) hd_X0_isMatch kw541 kw542 kw543 rfl (zlt hL (by decide)) (zl10 hL) (by decide) (by decide) (by decide) (by decide) rfl rfl (Nat.le_of_ble_eq_true rfl) dX3_fits_14 (fun r I' hp => ?_)
  rw [hp.1, hp.2]
  show zW G F 1 6 J14 [(0, .ref (F.1 0)), (1, .int (zI line))] [.int (zI v14)] 17
  exact hE _ _ _ _ dX3_fits_17 (by first | decide | omega) (k5 p2)

abbrev rm_X3_strangest : Room := { frames := 4, cells := 0, slots := 0, locals := 98 }
set_option maxRecDepth 100000 in
set_option maxHeartbeats 4000000 in
theorem s_X3_strangest_0 {G : zCx} {F : zFr} {I : zStore} {post : Option Value → zStore → Prop} (hG : zOK G "LineLearner" cX3_strangest 5) (hR : zRoom G rm_X3_strangest) (hE : zRetI G F cX3_strangest 0 0 post) (hL : zLay F) (hr : zRg I)
    (k1 : zW G F 0 0 I [(0, .ref (F.1 0)), (1, .int (zI (-1))), (2, .int (zI (-1))), (3, .int (zI 0))] [] 6) :
    zW G F 0 0 I [(0, .ref (F.1 0))] [] 0 := by
  refine z_iconst (-1) hG dX3_strangest_0 ?_
  refine z_istore_n (lv' := [(1, .int (zI (-1))), (0, .ref (F.1 0))]) hG dX3_strangest_1 rfl (by decide) rfl ?_
  refine z_iconst (-1) hG dX3_strangest_2 ?_
  refine z_istore_n (lv' := [(2, .int (zI (-1))), (1, .int (zI (-1))), (0, .ref (F.1 0))]) hG dX3_strangest_3 rfl (by decide) rfl ?_
  refine z_iconst 0 hG dX3_strangest_4 ?_
  refine z_istore_n (lv' := [(3, .int (zI 0)), (2, .int (zI (-1))), (1, .int (zI (-1))), (0, .ref (F.1 0))]) hG dX3_strangest_5 rfl (by decide) rfl ?_
  refine z_perm (lv' := [(0, .ref (F.1 0)), (1, .int (zI (-1))), (2, .int (zI (-1))), (3, .int (zI 0))]) [3, 2, 1, 0] rfl ?_
  exact k1

set_option maxRecDepth 100000 in
set_option maxHeartbeats 4000000 in
theorem s_X3_strangest_6 {G : zCx} {F : zFr} {I : zStore} {post : Option Value → zStore → Prop}{found most line : Int} {J26 : zStore} {v26 : Int} (hG : zOK G "LineLearner" cX3_strangest 5) (hR : zRoom G rm_X3_strangest) (hE : zRetI G F cX3_strangest 0 0 post) (hL : zLay F) (hr : zRg I) (h1 : 0 ≤ line ∧ line ≤ 12 ∧ I 2 0 ≤ 12) (h2 : -1 ≤ most ∧ most ≤ 100000)
    (k1 : ((I 2 0) ≤ line) → post (some (.int (zI found))) I)
    (kc26 : (line < (I 2 0)) → ∀ (l : Launch) (D : va_G) (cs : Nat → ClassId), l.stackTraces = false → zMt l yX0_leastCost cX0_leastCost 5 (some .int) rm_X0_leastCost D cs F I [.ref (F.1 10), .ref (F.1 15), .int (zI line)] (fun r I' => r = some (.int (zI v26)) ∧ I' = J26))
    (hrJ26 : zRg J26)
    (hv26 : -2147483648 ≤ v26 ∧ v26 < 2147483648)
    (k5 : (line < (I 2 0)) → (v26 ≤ most) → zW G F 0 0 J26 [(0, .ref (F.1 0)), (1, .int (zI found)), (2, .int (zI most)), (3, .int (zI (line + 1)))] [] 6)
    (k6 : (line < (I 2 0)) → (most < v26) → zW G F 0 0 J26 [(0, .ref (F.1 0)), (1, .int (zI line)), (2, .int (zI v26)), (3, .int (zI (line + 1)))] [] 6) :
    zW G F 0 0 I [(0, .ref (F.1 0)), (1, .int (zI found)), (2, .int (zI most)), (3, .int (zI line))] [] 6 := by
  refine z_iload_n 3 hG dX3_strangest_6 rfl rfl ?_
  refine z_aload_n 0 hG dX3_strangest_7 rfl rfl ?_
  refine z_getR (t := 2) hG zcl3 (zlt hL (by decide)) (zl0 hL) 2 (by decide) rfl kw161 dX3_strangest_8 ?_
  refine z_getIN (v := I 2 0) hG zcl2 (zlt hL (by decide)) (zl2 hL) 0 (by decide) rfl rfl rfl kw29 dX3_strangest_11 ?_
  refine z_icmp_ge (tgt := 48) hG dX3_strangest_14 (by decide) (by omega) (hr _ _) (fun c14 => ?_) (fun c14 => ?_)
  · skip
    refine z_iload_n 1 hG dX3_strangest_48 rfl rfl ?_
    exact hE _ _ _ _ dX3_strangest_49 (k1 c14)
  · skip
    refine z_aload_n 0 hG dX3_strangest_17 rfl rfl ?_
    refine z_getR (t := 10) hG zcl3 (zlt hL (by decide)) (zl0 hL) 3 (by decide) rfl kw162 dX3_strangest_18 ?_
    refine z_aload_n 0 hG dX3_strangest_21 rfl rfl ?_
    refine z_getR (t := 15) hG zcl3 (zlt hL (by decide)) (zl0 hL) 4 (by decide) rfl kw163 dX3_strangest_22 ?_
    refine z_iload_n 3 hG dX3_strangest_25 rfl rfl ?_
    refine z_callV [.ref (F.1 15), .int (zI line)] hG hR (kc26 c14) hd_X0_leastCost kw209 kw210 kw211 rfl (zlt hL (by decide)) (zl10 hL) (by decide) (by decide) (by decide) (by decide) rfl rfl (Nat.le_of_ble_eq_true rfl) dX3_strangest_26 (fun r I' hp => ?_)
    rw [hp.1, hp.2]
    show zW G F 0 0 J26 [(0, .ref (F.1 0)), (1, .int (zI found)), (2, .int (zI most)), (3, .int (zI line))] [.int (zI v26)] 29
    refine z_istore (lv' := [(4, .int (zI v26)), (0, .ref (F.1 0)), (1, .int (zI found)), (2, .int (zI most)), (3, .int (zI line))]) hG dX3_strangest_29 (by decide) rfl ?_
    refine z_iload 0 hG dX3_strangest_31 rfl ?_
    refine z_iload_n 3 hG dX3_strangest_33 rfl rfl ?_
    refine z_icmp_le (tgt := 42) hG dX3_strangest_34 (by decide) (by omega) (by omega) (fun c34 => ?_) (fun c34 => ?_)
    · skip
      refine z_iinc (lv' := [(3, .int (zI (line + 1))), (4, .int (zI v26)), (0, .ref (F.1 0)), (1, .int (zI found)), (2, .int (zI most))]) 4 hG dX3_strangest_42 rfl (by decide) rfl ?_
      refine z_goto (tgt := 6) hG dX3_strangest_45 (by decide) ?_
      refine z_perm (lv' := [(0, .ref (F.1 0)), (1, .int (zI found)), (2, .int (zI most)), (3, .int (zI (line + 1)))]) [2, 3, 4, 0] rfl ?_
      exact k5 c14 c34
    · skip
      refine z_iload 0 hG dX3_strangest_37 rfl ?_
      refine z_istore_n (lv' := [(2, .int (zI v26)), (4, .int (zI v26)), (0, .ref (F.1 0)), (1, .int (zI found)), (3, .int (zI line))]) hG dX3_strangest_39 rfl (by decide) rfl ?_
      refine z_iload_n 4 hG dX3_strangest_40 rfl rfl ?_
      refine z_istore_n (lv' := [(1, .int (zI line)), (2, .int (zI v26)), (4, .int (zI v26)), (0, .ref (F.1 0)), (3, .int (zI line))]) hG dX3_strangest_41 rfl (by decide) rfl ?_
      refine z_iinc (lv' := [(3, .int (zI (line + 1))), (1, .int (zI line)), (2, .int (zI v26)), (4, .int (zI v26)), (0, .ref (F.1 0))]) 4 hG dX3_strangest_42 rfl (by decide) rfl ?_
      refine z_goto (tgt := 6) hG dX3_strangest_45 (by decide) ?_
      refine z_perm (lv' := [(0, .ref (F.1 0)), (1, .int (zI line)), (2, .int (zI v26)), (3, .int (zI (line + 1)))]) [4, 1, 2, 0] rfl ?_
      exact k6 c14 c34

abbrev rm_X3_isTextBefore : Room := { frames := 3, cells := 0, slots := 0, locals := 68 }
set_option maxRecDepth 100000 in
set_option maxHeartbeats 4000000 in
theorem s_X3_isTextBefore_0 {G : zCx} {F : zFr} {I : zStore} {post : Option Value → zStore → Prop}{line : Int} {id : Int} {tx : Int} (hG : zOK G "LineLearner" cX3_isTextBefore 5) (hR : zRoom G rm_X3_isTextBefore) (hE : zRetZ G F cX3_isTextBefore 0 0 post) (hL : zLay F) (hr : zRg I)
    (k1 : zW G F 0 0 I [(0, .ref (F.1 0)), (1, .int (zI line)), (2, .int (zI id)), (3, .int (zI tx)), (4, .int (zI 0))] [] 3) :
    zW G F 0 0 I [(0, .ref (F.1 0)), (1, .int (zI line)), (2, .int (zI id)), (3, .int (zI tx))] [] 0 := by
  refine z_iconst 0 hG dX3_isTextBefore_0 ?_
  refine z_istore (lv' := [(4, .int (zI 0)), (0, .ref (F.1 0)), (1, .int (zI line)), (2, .int (zI id)), (3, .int (zI tx))]) hG dX3_isTextBefore_1 (by decide) rfl ?_
  refine z_perm (lv' := [(0, .ref (F.1 0)), (1, .int (zI line)), (2, .int (zI id)), (3, .int (zI tx)), (4, .int (zI 0))]) [1, 2, 3, 4, 0] rfl ?_
  exact k1

set_option maxRecDepth 100000 in
set_option maxHeartbeats 4000000 in
theorem s_X3_isTextBefore_3 {G : zCx} {F : zFr} {I : zStore} {post : Option Value → zStore → Prop}{line id tx j : Int} (hG : zOK G "LineLearner" cX3_isTextBefore 5) (hR : zRoom G rm_X3_isTextBefore) (hE : zRetZ G F cX3_isTextBefore 0 0 post) (hL : zLay F) (hr : zRg I) (h1 : 0 ≤ j ∧ j ≤ line ∧ line ≤ 12) (h2 : -2147483648 ≤ tx ∧ tx < 2147483648) (g1 : ∀ _u : Unit, j < line → (0 ≤ I 22 j ∧ I 22 j ≤ 1) ∧ 0 ≤ I 4 j ∧ I 4 j ≤ 30) (h5 : -2147483648 ≤ id ∧ id < 2147483648)
    (k1 : (line ≤ j) → post (some (.int (zI 0))) I)
    (k2 : (j < line) → ((ztx I j id) ≠ tx) → zW G F 0 0 I [(0, .ref (F.1 0)), (1, .int (zI line)), (2, .int (zI id)), (3, .int (zI tx)), (4, .int (zI (j + 1)))] [] 3)
    (k3 : (j < line) → ((ztx I j id) = tx) → post (some (.int (zI 1))) I) :
    zW G F 0 0 I [(0, .ref (F.1 0)), (1, .int (zI line)), (2, .int (zI id)), (3, .int (zI tx)), (4, .int (zI j))] [] 3 := by
  refine z_iload 4 hG dX3_isTextBefore_3 rfl ?_
  refine z_iload_n 1 hG dX3_isTextBefore_5 rfl rfl ?_
  refine z_icmp_ge (tgt := 28) hG dX3_isTextBefore_6 (by decide) (by omega) (by omega) (fun c6 => ?_) (fun c6 => ?_)
  · skip
    refine z_iconst 0 hG dX3_isTextBefore_28 ?_
    exact hE _ _ _ _ dX3_isTextBefore_29 (by first | decide | omega) (k1 c6)
  · skip
    have q9 := g1 () c6
    refine z_aload_n 0 hG dX3_isTextBefore_9 rfl rfl ?_
    refine z_iload 4 hG dX3_isTextBefore_10 rfl ?_
    refine z_iload_n 2 hG dX3_isTextBefore_12 rfl rfl ?_
    refine z_callV [.int (zI j), .int (zI id)] hG hR (c_X3_textIn hL hr (by omega) (by omega) (by omega) (by omega)) hd_X3_textIn kw624 kw626 kp19 rfl (zlt hL (by decide)) (zl0 hL) (by decide) (by decide) (by decide) (by decide) rfl rfl (Nat.le_of_ble_eq_true rfl) dX3_isTextBefore_13 (fun r I' hp => ?_)
    rw [hp.1, hp.2]
    have ha13_0 : -2147483648 ≤ (ztx I j id) ∧ (ztx I j id) < 2147483648 := ztx_rg hr
    show zW G F 0 0 I [(0, .ref (F.1 0)), (1, .int (zI line)), (2, .int (zI id)), (3, .int (zI tx)), (4, .int (zI j))] [.int (zI (ztx I j id))] 16
    refine z_iload_n 3 hG dX3_isTextBefore_16 rfl rfl ?_
    refine z_icmp_ne (tgt := 22) hG dX3_isTextBefore_17 (by decide) (by omega) (by omega) (fun c17 => ?_) (fun c17 => ?_)
    · skip
      refine z_iinc (lv' := [(4, .int (zI (j + 1))), (0, .ref (F.1 0)), (1, .int (zI line)), (2, .int (zI id)), (3, .int (zI tx))]) 4 hG dX3_isTextBefore_22 rfl (by decide) rfl ?_
      refine z_goto (tgt := 3) hG dX3_isTextBefore_25 (by decide) ?_
      refine z_perm (lv' := [(0, .ref (F.1 0)), (1, .int (zI line)), (2, .int (zI id)), (3, .int (zI tx)), (4, .int (zI (j + 1)))]) [1, 2, 3, 4, 0] rfl ?_
      exact k2 c6 c17
    · skip
      refine z_iconst 1 hG dX3_isTextBefore_20 ?_
      exact hE _ _ _ _ dX3_isTextBefore_21 (by first | decide | omega) (k3 c6 c17)

abbrev rm_X3_distinct : Room := { frames := 7, cells := 1, slots := 6, locals := 103 }
set_option maxRecDepth 100000 in
set_option maxHeartbeats 4000000 in
theorem s_X3_distinct_0 {G : zCx} {F : zFr} {I : zStore} {post : Option Value → zStore → Prop} {px : String → zStore → Prop}{slot : Int} (hG : zOK G "LineLearner" cX3_distinct 6) (hR : zRoom G rm_X3_distinct) (hE : zRetI G F cX3_distinct 1 6 post) (hT : zThr G F cX3_distinct 1 6 px) (hL : zLay F) (hr : zRg I) (hs : -2147483648 ≤ slot ∧ slot < 2147483648) (hf : 0 ≤ I 15 0 ∧ I 15 0 ≤ 40)
    (k1 : (¬ (0 ≤ slot ∧ slot < I 15 0)) → px "java/lang/IndexOutOfBoundsException" I)
    (k2 : (0 ≤ slot ∧ slot < I 15 0) → zW G F 1 6 I [(0, .ref (F.1 0)), (1, .int (zI slot)), (2, .int (zI (I 16 slot))), (3, .int (zI 0)), (4, .int (zI 0))] [] 11) :
    zW G F 0 0 I [(0, .ref (F.1 0)), (1, .int (zI slot))] [] 0 := by
  refine z_aload_n 0 hG dX3_distinct_0 rfl rfl ?_
  refine z_iload_n 1 hG dX3_distinct_1 rfl rfl ?_
  refine z_callVX [.int (zI slot)] hG hR (c_X3_neededSlot hL hr (by omega) (by omega)) hd_X3_neededSlot kw556 kw558 kp16 rfl (zlt hL (by decide)) (zl0 hL) (by decide) (by decide) (by decide) (by decide) rfl rfl (Nat.le_of_ble_eq_true rfl) dX3_distinct_2 (fun E I' hp => ?_) (fun r I' hp => ?_)
  · obtain ⟨hI, hx⟩ := hp
    rw [hI]
    obtain ⟨hE9, h⟩ := hx
    subst hE9
    exact hT.2.2 _ _ _ _ _ _ (by decide) (by decide) (k1 h)
  have p2 : 0 ≤ slot ∧ slot < I 15 0 := hp.1
  rw [hp.2.1, hp.2.2]
  show zW G F 1 6 I [(0, .ref (F.1 0)), (1, .int (zI slot))] [.int (zI (I 16 slot))] 5
  refine z_istore_n (lv' := [(2, .int (zI (I 16 slot))), (0, .ref (F.1 0)), (1, .int (zI slot))]) hG dX3_distinct_5 rfl (by decide) rfl ?_
  refine z_iconst 0 hG dX3_distinct_6 ?_
  refine z_istore_n (lv' := [(3, .int (zI 0)), (2, .int (zI (I 16 slot))), (0, .ref (F.1 0)), (1, .int (zI slot))]) hG dX3_distinct_7 rfl (by decide) rfl ?_
  refine z_iconst 0 hG dX3_distinct_8 ?_
  refine z_istore (lv' := [(4, .int (zI 0)), (3, .int (zI 0)), (2, .int (zI (I 16 slot))), (0, .ref (F.1 0)), (1, .int (zI slot))]) hG dX3_distinct_9 (by decide) rfl ?_
  refine z_perm (lv' := [(0, .ref (F.1 0)), (1, .int (zI slot)), (2, .int (zI (I 16 slot))), (3, .int (zI 0)), (4, .int (zI 0))]) [3, 4, 2, 1, 0] rfl ?_
  exact k2 p2

set_option maxRecDepth 100000 in
set_option maxHeartbeats 4000000 in
theorem s_X3_distinct_11 {G : zCx} {F : zFr} {I : zStore} {post : Option Value → zStore → Prop} {px : String → zStore → Prop}{slot id n line : Int} {v44 : Int} (hG : zOK G "LineLearner" cX3_distinct 6) (hR : zRoom G rm_X3_distinct) (hE : zRetI G F cX3_distinct 1 6 post) (hT : zThr G F cX3_distinct 1 6 px) (hL : zLay F) (hr : zRg I) (h1 : 0 ≤ line ∧ line ≤ 12 ∧ I 2 0 ≤ 12) (g1 : ∀ _u : Unit, line < I 2 0 → (0 ≤ I 22 line ∧ I 22 line ≤ 1) ∧ 0 ≤ I 4 line ∧ I 4 line ≤ 30) (h5 : -2147483648 ≤ id ∧ id < 2147483648)
    (k1 : ((I 2 0) ≤ line) → post (some (.int (zI n))) I)
    (k2 : (line < (I 2 0)) → ((ztx I line id) = (-1)) → zW G F 1 6 I [(0, .ref (F.1 0)), (1, .int (zI slot)), (2, .int (zI id)), (3, .int (zI n)), (4, .int (zI (line + 1)))] [] 11)
    (kc44 : (line < (I 2 0)) → ((ztx I line id) ≠ (-1)) → ∀ (l : Launch) (D : va_G) (cs : Nat → ClassId), l.stackTraces = false → zMt l yX3_isTextBefore cX3_isTextBefore 5 (some .boolean) rm_X3_isTextBefore D cs F I [.ref (F.1 0), .int (zI line), .int (zI id), .int (zI (ztx I line id))] (fun r I' => r = some (.int (zI v44)) ∧ I' = I))
    (hv44 : v44 = 0 ∨ v44 = 1)
    (k5 : (line < (I 2 0)) → ((ztx I line id) ≠ (-1)) → (v44 ≠ 0) → zW G F 1 6 I [(0, .ref (F.1 0)), (1, .int (zI slot)), (2, .int (zI id)), (3, .int (zI n)), (4, .int (zI (line + 1)))] [] 11)
    (k6 : (line < (I 2 0)) → ((ztx I line id) ≠ (-1)) → (v44 = 0) → zW G F 1 6 I [(0, .ref (F.1 0)), (1, .int (zI slot)), (2, .int (zI id)), (3, .int (zI (n + 1))), (4, .int (zI (line + 1)))] [] 11) :
    zW G F 1 6 I [(0, .ref (F.1 0)), (1, .int (zI slot)), (2, .int (zI id)), (3, .int (zI n)), (4, .int (zI line))] [] 11 := by
  refine z_iload 4 hG dX3_distinct_11 rfl ?_
  refine z_aload_n 0 hG dX3_distinct_13 rfl rfl ?_
  refine z_getR (t := 2) hG zcl3 (zlt hL (by decide)) (zl0 hL) 2 (by decide) rfl kw161 dX3_distinct_14 ?_
  refine z_getIN (v := I 2 0) hG zcl2 (zlt hL (by decide)) (zl2 hL) 0 (by decide) rfl rfl rfl kw29 dX3_distinct_17 ?_
  refine z_icmp_ge (tgt := 59) hG dX3_distinct_20 (by decide) (by omega) (hr _ _) (fun c20 => ?_) (fun c20 => ?_)
  · skip
    refine z_iload_n 3 hG dX3_distinct_59 rfl rfl ?_
    exact hE _ _ _ _ dX3_distinct_60 (k1 c20)
  · skip
    have q9 := g1 () c20
    refine z_aload_n 0 hG dX3_distinct_23 rfl rfl ?_
    refine z_iload 4 hG dX3_distinct_24 rfl ?_
    refine z_iload_n 2 hG dX3_distinct_26 rfl rfl ?_
    refine z_callV [.int (zI line), .int (zI id)] hG hR (c_X3_textIn hL hr (by omega) (by omega) (by omega) (by omega)) hd_X3_textIn kw624 kw626 kp19 rfl (zlt hL (by decide)) (zl0 hL) (by decide) (by decide) (by decide) (by decide) rfl rfl (Nat.le_of_ble_eq_true rfl) dX3_distinct_27 (fun r I' hp => ?_)
    rw [hp.1, hp.2]
    have ha27_0 : -2147483648 ≤ (ztx I line id) ∧ (ztx I line id) < 2147483648 := ztx_rg hr
    show zW G F 1 6 I [(0, .ref (F.1 0)), (1, .int (zI slot)), (2, .int (zI id)), (3, .int (zI n)), (4, .int (zI line))] [.int (zI (ztx I line id))] 30
    refine z_istore (lv' := [(5, .int (zI (ztx I line id))), (0, .ref (F.1 0)), (1, .int (zI slot)), (2, .int (zI id)), (3, .int (zI n)), (4, .int (zI line))]) hG dX3_distinct_30 (by decide) rfl ?_
    refine z_iload 0 hG dX3_distinct_32 rfl ?_
    refine z_iconst (-1) hG dX3_distinct_34 ?_
    refine z_icmp_eq (tgt := 53) hG dX3_distinct_35 (by decide) (by omega) (by decide) (fun c35 => ?_) (fun c35 => ?_)
    · skip
      refine z_iinc (lv' := [(4, .int (zI (line + 1))), (5, .int (zI (ztx I line id))), (0, .ref (F.1 0)), (1, .int (zI slot)), (2, .int (zI id)), (3, .int (zI n))]) 5 hG dX3_distinct_53 rfl (by decide) rfl ?_
      refine z_goto (tgt := 11) hG dX3_distinct_56 (by decide) ?_
      refine z_perm (lv' := [(0, .ref (F.1 0)), (1, .int (zI slot)), (2, .int (zI id)), (3, .int (zI n)), (4, .int (zI (line + 1)))]) [2, 3, 4, 5, 0] rfl ?_
      exact k2 c20 c35
    · skip
      refine z_aload_n 1 hG dX3_distinct_38 rfl rfl ?_
      refine z_iload 5 hG dX3_distinct_39 rfl ?_
      refine z_iload_n 3 hG dX3_distinct_41 rfl rfl ?_
      refine z_iload 0 hG dX3_distinct_42 rfl ?_
      refine z_callV [.int (zI line), .int (zI id), .int (zI (ztx I line id))] hG hR (kc44 c20 c35) hd_X3_isTextBefore kw628 kw630 kp20 rfl (zlt hL (by decide)) (zl0 hL) (by decide) (by decide) (by decide) (by decide) rfl rfl (Nat.le_of_ble_eq_true rfl) dX3_distinct_44 (fun r I' hp => ?_)
      rw [hp.1, hp.2]
      show zW G F 1 6 I [(5, .int (zI (ztx I line id))), (0, .ref (F.1 0)), (1, .int (zI slot)), (2, .int (zI id)), (3, .int (zI n)), (4, .int (zI line))] [.int (zI v44)] 47
      refine z_if_ne (tgt := 53) hG dX3_distinct_47 (by decide) (by omega) (fun c47 => ?_) (fun c47 => ?_)
      · skip
        refine z_iinc (lv' := [(4, .int (zI (line + 1))), (5, .int (zI (ztx I line id))), (0, .ref (F.1 0)), (1, .int (zI slot)), (2, .int (zI id)), (3, .int (zI n))]) 5 hG dX3_distinct_53 rfl (by decide) rfl ?_
        refine z_goto (tgt := 11) hG dX3_distinct_56 (by decide) ?_
        refine z_perm (lv' := [(0, .ref (F.1 0)), (1, .int (zI slot)), (2, .int (zI id)), (3, .int (zI n)), (4, .int (zI (line + 1)))]) [2, 3, 4, 5, 0] rfl ?_
        exact k5 c20 c35 c47
      · skip
        refine z_iinc (lv' := [(3, .int (zI (n + 1))), (5, .int (zI (ztx I line id))), (0, .ref (F.1 0)), (1, .int (zI slot)), (2, .int (zI id)), (4, .int (zI line))]) 4 hG dX3_distinct_50 rfl (by decide) rfl ?_
        refine z_iinc (lv' := [(4, .int (zI (line + 1))), (3, .int (zI (n + 1))), (5, .int (zI (ztx I line id))), (0, .ref (F.1 0)), (1, .int (zI slot)), (2, .int (zI id))]) 5 hG dX3_distinct_53 rfl (by decide) rfl ?_
        refine z_goto (tgt := 11) hG dX3_distinct_56 (by decide) ?_
        refine z_perm (lv' := [(0, .ref (F.1 0)), (1, .int (zI slot)), (2, .int (zI id)), (3, .int (zI (n + 1))), (4, .int (zI (line + 1)))]) [3, 4, 5, 1, 0] rfl ?_
        exact k6 c20 c35 c47

def zbf (I : zStore) (id tx : Int) : Nat → Bool
  | 0 => false
  | j + 1 => zbf I id tx j || (ztx I j id == tx)
/-- how many different texts have used the slot id, of the first lines -/
def zdc (I : zStore) (id : Int) : Nat → Nat
  | 0 => 0
  | l + 1 => zdc I id l + if ztx I l id ≠ (-1) ∧ zbf I id (ztx I l id) l = false then 1 else 0
theorem zbf_t {I : zStore} {id tx : Int} {j : Nat} (h : ztx I j id = tx) : ∀ n : Nat, j < n → zbf I id tx n = true
  | 0, hn => absurd hn (by omega)
  | n + 1, hn => by
    simp only [zbf]
    by_cases e : j = n
    · subst e
      rw [show (ztx I j id == tx) = true from beq_iff_eq.mpr h, Bool.or_true]
    · rw [zbf_t h n (by omega), Bool.true_or]
/-- every line can be asked for the token of a slot -/
def zLn (I : zStore) (n : Int) : Prop := ∀ line : Int, 0 ≤ line → line < n → (0 ≤ I 22 line ∧ I 22 line ≤ 1) ∧ 0 ≤ I 4 line ∧ I 4 line ≤ 30
theorem c_X3_isTextBefore {F : zFr} {I : zStore} {line : Nat} {id tx : Int} (hL : zLay F) (hr : zRg I) (hl : line ≤ 12) (hid : -2147483648 ≤ id ∧ id < 2147483648) (htx : -2147483648 ≤ tx ∧ tx < 2147483648) (hln : zLn I line) : ∀ (l : Launch) (D : va_G) (cs : Nat → ClassId), l.stackTraces = false → zMt l yX3_isTextBefore cX3_isTextBefore 5 (some .boolean) rm_X3_isTextBefore D cs F I [.ref (F.1 0), .int (zI line), .int (zI id), .int (zI tx)] (fun r I' => r = some (.int (zI (zb (zbf I id tx line)))) ∧ I' = I) := by
  intro l D cs hst
  refine zMt.ofZ hst (by decide +kernel) (Nat.le_of_ble_eq_true rfl) fun G hG hR hE => ?_
  refine s_X3_isTextBefore_0 hG hR hE hL hr ?_
  have key : ∀ (d j : Nat), j + d = line → zbf I id tx j = false → zW G F 0 0 I [(0, .ref (F.1 0)), (1, .int (zI line)), (2, .int (zI id)), (3, .int (zI tx)), (4, .int (zI j))] [] 3 := by
    intro d
    induction d with
    | zero =>
      intro j hj hb
      have e : j = line := by omega
      subst e
      exact s_X3_isTextBefore_3 hG hR hE hL hr (by omega) htx (fun _ h => absurd h (by omega)) hid (fun _ => ⟨by rw [hb]; rfl, rfl⟩) (fun h => absurd h (by omega)) (fun h => absurd h (by omega))
    | succ d ih =>
      intro j hj hb
      refine s_X3_isTextBefore_3 hG hR hE hL hr (by omega) htx (fun _ h => hln j (by omega) (by omega)) hid (fun h => absurd h (by omega)) (fun _ e => ?_) (fun _ e => ?_)
      · refine ih (j + 1) (by omega) ?_
        simp only [zbf]
        rw [hb, show (ztx I j id == tx) = false from beq_false_of_ne e]
        rfl
      · exact ⟨by rw [zbf_t e line (by omega)]; rfl, rfl⟩
  exact key line 0 (by omega) rfl
set_option maxHeartbeats 4000000 in
theorem c_X3_distinct {F : zFr} {I : zStore} {n : Nat} {slot : Int} (hL : zLay F) (hr : zRg I) (hs : -2147483648 ≤ slot ∧ slot < 2147483648) (hf : 0 ≤ I 15 0 ∧ I 15 0 ≤ 40) (hn : I 2 0 = n) (hn2 : n ≤ 12) (hln : zLn I n) : ∀ (l : Launch) (D : va_G) (cs : Nat → ClassId), l.stackTraces = false → zMx l yX3_distinct cX3_distinct 6 (some .int) rm_X3_distinct D cs F I [.ref (F.1 0), .int (zI slot)] (fun r I' => (0 ≤ slot ∧ slot < I 15 0) ∧ r = some (.int (zI (zdc I (I 16 slot) n))) ∧ I' = I) (fun E I' => I' = I ∧ (E = "java/lang/IndexOutOfBoundsException" ∧ ¬ (0 ≤ slot ∧ slot < I 15 0))) := by
  intro l D cs hst
  refine zMx.ofI hst (by decide +kernel) rfl (Nat.le_of_ble_eq_true rfl) fun G hG hR hE hT => ?_
  refine s_X3_distinct_0 hG hR hE hT hL hr hs hf (fun e => ⟨rfl, rfl, e⟩) (fun es => ?_)
  have hid := hr 16 slot
  have key : ∀ (d l : Nat), l + d = n → zW G F 1 6 I [(0, .ref (F.1 0)), (1, .int (zI slot)), (2, .int (zI (I 16 slot))), (3, .int (zI (zdc I (I 16 slot) l))), (4, .int (zI l))] [] 11 := by
    intro d
    induction d with
    | zero =>
      intro l hl
      have e : l = n := by omega
      subst e
      exact s_X3_distinct_11 (v44 := 0) hG hR hE hT hL hr (by omega) (fun _ h => absurd h (by omega)) hid (fun _ => ⟨es, rfl, rfl⟩) (fun h => absurd h (by omega)) (fun h => absurd h (by omega)) (by omega) (fun h => absurd h (by omega)) (fun h => absurd h (by omega))
    | succ d ih =>
      intro l hl
      have h := ih (l + 1) (by omega)
      have hb := zb_bd (zbf I (I 16 slot) (ztx I l (I 16 slot)) l)
      refine s_X3_distinct_11 (v44 := zb (zbf I (I 16 slot) (ztx I l (I 16 slot)) l)) hG hR hE hT hL hr (by omega) (fun _ _ => hln l (by omega) (by omega)) hid (fun h => absurd h (by omega)) (fun _ e => ?_) (fun _ _ => c_X3_isTextBefore hL hr (by omega) hid (ztx_rg hr) (fun k k0 k1 => hln k k0 (by omega))) (by omega) (fun _ e e2 => ?_) (fun _ e e2 => ?_)
      · simp only [zdc] at h
        rw [if_neg (fun q => q.1 e)] at h
        exact h
      · simp only [zdc] at h
        rw [if_neg (fun q => by rw [q.2] at e2; exact e2 rfl)] at h
        exact h
      · simp only [zdc] at h
        rw [if_pos ⟨e, zb_0 e2⟩] at h
        exact h
  exact key n 0 (by omega)
