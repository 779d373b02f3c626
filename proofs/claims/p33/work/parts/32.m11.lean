def zno (I : zStore) (p : Int) : Int := znum (I 5) (max (I 7 p) (((I 7 p) + (I 8 p)) - 9)) (((I 7 p) + (I 8 p)) - (max (I 7 p) (((I 7 p) + (I 8 p)) - 9))).toNat
/-- the number that the line tells in the slot id, -1 if there is none -/
def znb (I : zStore) (line id : Int) : Int := if zti I line id ≠ (-1) ∧ I 17 id = 1 then zno I (line * 30 + zti I line id) else (-1)
/-- how many tokens at the front are the same -/
def zfront (I : zStore) (a c : Int) : Nat := fa_first (fun t => I 9 (a * 30 + t) != I 9 (c * 30 + t)) (min (I 4 a) (I 4 c)).toNat
/-- the store behind clear -/
def zclr (I : zStore) : zStore := zfl (zup (zup I 15 0 0) 15 1 0) 22 0 12 (fun _ => 0)
theorem c_X3_clear {F : zFr} {I : zStore} (hL : zLay F) (hr : zRg I) : ∀ (l : Launch) (D : va_G) (cs : Nat → ClassId), l.stackTraces = false → zMt l yX3_clear cX3_clear 3 (some .int) rm_X3_clear D cs F I [.ref (F.1 0)] (fun r I' => r = some (.int (zI (I 15 1))) ∧ I' = zclr I) := by
  intro l D cs hst
  refine zMt.ofI hst (by decide +kernel) (Nat.le_of_ble_eq_true rfl) fun G hG hR hE => ?_
  refine s_X3_clear_0 hG hR hE hL hr ?_
  have hr0 : zRg (zup (zup I 15 0 0) 15 1 0) := zRg_up (zRg_up hr (by decide)) (by decide)
  have key : ∀ (d i : Nat), i + d = 12 → zW G F 0 0 (zfl (zup (zup I 15 0 0) 15 1 0) 22 0 i (fun _ => 0)) [(0, .ref (F.1 0)), (1, .int (zI (I 15 1))), (2, .int (zI i))] [] 17 := by
    intro d
    induction d with
    | zero =>
      intro i hi
      have e : i = 12 := by omega
      subst e
      exact s_X3_clear_17 hG hR hE hL (zRg_fl hr0 (fun k _ => by decide)) (by omega) (fun _ => ⟨rfl, rfl⟩) (fun h => absurd h (by omega))
    | succ d ih =>
      intro i hi
      refine s_X3_clear_17 hG hR hE hL (zRg_fl hr0 (fun k _ => by decide)) (by omega) (fun h => absurd h (by omega)) (fun _ => ?_)
      rw [zfl_up rfl (by omega)]
      exact ih (i + 1) (by omega)
  have h := key 12 0 (by omega)
  rw [zfl_0] at h
  exact h
abbrev rm_X3_costWith : Room := { frames := 7, cells := 1, slots := 6, locals := 103 }
set_option maxRecDepth 100000 in
set_option maxHeartbeats 4000000 in
theorem s_X3_costWith_0 {G : zCx} {F : zFr} {I : zStore} {post : Option Value → zStore → Prop} {px : String → zStore → Prop}{line : Int} {J14 : zStore} {v14 : Int} (hG : zOK G "LineLearner" cX3_costWith 2) (hR : zRoom G rm_X3_costWith) (hE : zRetI G F cX3_costWith 1 6 post) (hT : zThr G F cX3_costWith 1 6 px) (hL : zLay F) (hr : zRg I) (hl : -2147483648 ≤ line ∧ line < 2147483648) (hn : 0 ≤ I 2 0 ∧ I 2 0 ≤ 12)
    (k1 : (¬ (0 ≤ line ∧ line < I 2 0)) → px "java/lang/IndexOutOfBoundsException" I)
    (kc14 : (0 ≤ line ∧ line < I 2 0) → ∀ (l : Launch) (D : va_G) (cs : Nat → ClassId), l.stackTraces = false → zMt l yX0_leastCost cX0_leastCost 5 (some .int) rm_X0_leastCost D cs F I [.ref (F.1 10), .ref (F.1 15), .int (zI line)] (fun r I' => r = some (.int (zI v14)) ∧ I' = J14))
    (hrJ14 : zRg J14)
    (hv14 : -2147483648 ≤ v14 ∧ v14 < 2147483648)
    (k5 : (0 ≤ line ∧ line < I 2 0) → post (some (.int (zI v14))) J14) :
    zW G F 0 0 I [(0, .ref (F.1 0)), (1, .int (zI line))] [] 0 := by
  refine z_aload_n 0 hG dX3_costWith_0 rfl rfl ?_
  refine z_iload_n 1 hG dX3_costWith_1 rfl rfl ?_
  refine z_callVX [.int (zI line)] hG hR (c_X3_needLine hL hr (by omega)) hd_X3_needLine kw422 kw424 kp12 rfl (zlt hL (by decide)) (zl0 hL) (by decide) (by decide) (by decide) (by decide) rfl rfl (Nat.le_of_ble_eq_true rfl) dX3_costWith_2 (fun E I' hp => ?_) (fun r I' hp => ?_)
  · obtain ⟨hI, hx⟩ := hp
    rw [hI]
    obtain ⟨hE9, h⟩ := hx
    subst hE9
    exact hT.2.2 _ _ _ _ _ _ (by decide) (by decide) (k1 h)
  have p2 : 0 ≤ line ∧ line < I 2 0 := hp.1
  rw [hp.2.1, hp.2.2]
  show zW G F 1 6 I [(0, .ref (F.1 0)), (1, .int (zI line))] [] 5
  refine z_aload_n 0 hG dX3_costWith_5 rfl rfl ?_
  refine z_getR (t := 10) hG zcl3 (zlt hL (by decide)) (zl0 hL) 3 (by decide) rfl kw162 dX3_costWith_6 ?_
  refine z_aload_n 0 hG dX3_costWith_9 rfl rfl ?_
  refine z_getR (t := 15) hG zcl3 (zlt hL (by decide)) (zl0 hL) 4 (by decide) rfl kw163 dX3_costWith_10 ?_
  refine z_iload_n 1 hG dX3_costWith_13 rfl rfl ?_
  refine z_callV [.ref (F.1 15), .int (zI line)] hG hR (kc14 p2) hd_X0_leastCost kw209 kw210 kw211 rfl (zlt hL (by decide)) (zl10 hL) (by decide) (by decide) (by decide) (by decide) rfl rfl (Nat.le_of_ble_eq_true rfl) dX3_costWith_14 (fun r I' hp => ?_)
  rw [hp.1, hp.2]
  show zW G F 1 6 J14 [(0, .ref (F.1 0)), (1, .int (zI line))] [.int (zI v14)] 17
  exact hE _ _ _ _ dX3_costWith_17 (k5 p2)

abbrev rm_X3_fits : Room := { frames := 7, cells := 1, slots := 6, locals := 103 }
set_option maxRecDepth 100000 in
set_option maxHeartbeats 4000000 in
theorem s_X3_fits_0 {G : zCx} {F : zFr} {I : zStore} {post : Option Value → zStore → Prop} {px : String → zStore → Prop}{line : Int} {J14 : zStore} {v14 : Int} (hG : zOK G "LineLearner" cX3_fits 2) (hR : zRoom G rm_X3_fits) (hE : zRetZ G F cX3_fits 1 6 post) (hT : zThr G F cX3_fits 1 6 px) (hL : zLay F) (hr : zRg I) (hl : -2147483648 ≤ line ∧ line < 2147483648) (hn : 0 ≤ I 2 0 ∧ I 2 0 ≤ 12)
    (k1 : (¬ (0 ≤ line ∧ line < I 2 0)) → px "java/lang/IndexOutOfBoundsException" I)
    (kc14 : (0 ≤ line ∧ line < I 2 0) → ∀ (l : Launch) (D : va_G) (cs : Nat → ClassId), l.stackTraces = false → zMt l yX0_isMatch cX0_isMatch 8 (some .boolean) rm_X0_isMatch D cs F I [.ref (F.1 10), .ref (F.1 15), .int (zI line)] (fun r I' => r = some (.int (zI v14)) ∧ I' = J14))
    (hrJ14 : zRg J14)
    (hv14 : v14 = 0 ∨ v14 = 1)
    (k5 : (0 ≤ line ∧ line < I 2 0) → post (some (.int (zI v14))) J14) :
    zW G F 0 0 I [(0, .ref (F.1 0)), (1, .int (zI line))] [] 0 := by
  refine z_aload_n 0 hG dX3_fits_0 rfl rfl ?_
  refine z_iload_n 1 hG dX3_fits_1 rfl rfl ?_
  refine z_callVX [.int (zI line)] hG hR (c_X3_needLine hL hr (by omega)) hd_X3_needLine kw422 kw424 kp12 rfl (zlt hL (by decide)) (zl0 hL) (by decide) (by decide) (by decide) (by decide) rfl rfl (Nat.le_of_ble_eq_true rfl) dX3_fits_2 (fun E I' hp => ?_) (fun r I' hp => ?_)
  · obtain ⟨hI, hx⟩ := hp
    rw [hI]
    obtain ⟨hE9, h⟩ := hx
    subst hE9
    exact hT.2.2 _ _ _ _ _ _ (by decide) (by decide) (k1 h)
  have p2 : 0 ≤ line ∧ line < I 2 0 := hp.1
  rw [hp.2.1, hp.2.2]
  show zW G F 1 6 I [(0, .ref (F.1 0)), (1, .int (zI line))] [] 5
  refine z_aload_n 0 hG dX3_fits_5 rfl rfl ?_
  refine z_getR (t := 10) hG zcl3 (zlt hL (by decide)) (zl0 hL) 3 (by decide) rfl kw162 dX3_fits_6 ?_
  refine z_aload_n 0 hG dX3_fits_9 rfl rfl ?_
  refine z_getR (t := 15) hG zcl3 (zlt hL (by decide)) (zl0 hL) 4 (by decide) rfl kw163 dX3_fits_10 ?_
  refine z_iload_n 1 hG dX3_fits_13 rfl rfl ?_
  refine z_callV [.ref (F.1 15), .int (zI line)] hG hR (kc14 p2) hd_X0_isMatch kw541 kw542 kw543 rfl (zlt hL (by decide)) (zl10 hL) (by decide) (by decide) (by decide) (by decide) rfl rfl (Nat.le_of_ble_eq_true rfl) dX3_fits_14 (fun r I' hp => ?_)
  rw [hp.1, hp.2]
  show zW G F 1 6 J14 [(0, .ref (F.1 0)), (1, .int (zI line))] [.int (zI v14)] 17
  exact hE _ _ _ _ dX3_fits_17 (by first | decide | omega) (k5 p2)

abbrev rm_X3_strangest : Room := { frames := 4, cells := 0, slots := 0, locals := 98 }
set_option maxRecDepth 100000 in
set_option maxHeartbeats 4000000 in
theorem s_X3_strangest_0 {G : zCx} {F : zFr} {I : zStore} {post : Option Value → zStore → Prop} (hG : zOK G "LineLearner" cX3_strangest 5) (hR : zRoom G rm_X3_strangest) (hE : zRetI G F cX3_strangest 0 0 post) (hL : zLay F) (hr : zRg I)
    (k1 : zW G F 0 0 I [(0, .ref (F.1 0)), (1, .int (zI (-1))), (2, .int (zI (-1))), (3, .int (zI 0))] [] 6) :
    zW G F 0 0 I [(0, .ref (F.1 0))] [] 0 := by
  refine z_iconst (-1) hG dX3_strangest_0 ?_
  refine z_istore_n (lv' := [(1, .int (zI (-1))), (0, .ref (F.1 0))]) hG dX3_strangest_1 rfl (by decide) rfl ?_
  refine z_iconst (-1) hG dX3_strangest_2 ?_
  refine z_istore_n (lv' := [(2, .int (zI (-1))), (1, .int (zI (-1))), (0, .ref (F.1 0))]) hG dX3_strangest_3 rfl (by decide) rfl ?_
  refine z_iconst 0 hG dX3_strangest_4 ?_
  refine z_istore_n (lv' := [(3, .int (zI 0)), (2, .int (zI (-1))), (1, .int (zI (-1))), (0, .ref (F.1 0))]) hG dX3_strangest_5 rfl (by decide) rfl ?_
  refine z_perm (lv' := [(0, .ref (F.1 0)), (1, .int (zI (-1))), (2, .int (zI (-1))), (3, .int (zI 0))]) [3, 2, 1, 0] rfl ?_
  exact k1

set_option maxRecDepth 100000 in
set_option maxHeartbeats 4000000 in
theorem s_X3_strangest_6 {G : zCx} {F : zFr} {I : zStore} {post : Option Value → zStore → Prop}{found most line : Int} {J26 : zStore} {v26 : Int} (hG : zOK G "LineLearner" cX3_strangest 5) (hR : zRoom G rm_X3_strangest) (hE : zRetI G F cX3_strangest 0 0 post) (hL : zLay F) (hr : zRg I) (h1 : 0 ≤ line ∧ line ≤ 12 ∧ I 2 0 ≤ 12) (h2 : -1 ≤ most ∧ most ≤ 100000)
    (k1 : ((I 2 0) ≤ line) → post (some (.int (zI found))) I)
    (kc26 : (line < (I 2 0)) → ∀ (l : Launch) (D : va_G) (cs : Nat → ClassId), l.stackTraces = false → zMt l yX0_leastCost cX0_leastCost 5 (some .int) rm_X0_leastCost D cs F I [.ref (F.1 10), .ref (F.1 15), .int (zI line)] (fun r I' => r = some (.int (zI v26)) ∧ I' = J26))
    (hrJ26 : zRg J26)
    (hv26 : -2147483648 ≤ v26 ∧ v26 < 2147483648)
    (k5 : (line < (I 2 0)) → (v26 ≤ most) → zW G F 0 0 J26 [(0, .ref (F.1 0)), (1, .int (zI found)), (2, .int (zI most)), (3, .int (zI (line + 1)))] [] 6)
    (k6 : (line < (I 2 0)) → (most < v26) → zW G F 0 0 J26 [(0, .ref (F.1 0)), (1, .int (zI line)), (2, .int (zI v26)), (3, .int (zI (line + 1)))] [] 6) :
    zW G F 0 0 I [(0, .ref (F.1 0)), (1, .int (zI found)), (2, .int (zI most)), (3, .int (zI line))] [] 6 := by
  refine z_iload_n 3 hG dX3_strangest_6 rfl rfl ?_
  refine z_aload_n 0 hG dX3_strangest_7 rfl rfl ?_
  refine z_getR (t := 2) hG zcl3 (zlt hL (by decide)) (zl0 hL) 2 (by decide) rfl kw161 dX3_strangest_8 ?_
  refine z_getIN (v := I 2 0) hG zcl2 (zlt hL (by decide)) (zl2 hL) 0 (by decide) rfl rfl rfl kw29 dX3_strangest_11 ?_
  refine z_icmp_ge (tgt := 48) hG dX3_strangest_14 (by decide) (by omega) (hr _ _) (fun c14 => ?_) (fun c14 => ?_)
  · skip
    refine z_iload_n 1 hG dX3_strangest_48 rfl rfl ?_
    exact hE _ _ _ _ dX3_strangest_49 (k1 c14)
  · skip
    refine z_aload_n 0 hG dX3_strangest_17 rfl rfl ?_
    refine z_getR (t := 10) hG zcl3 (zlt hL (by decide)) (zl0 hL) 3 (by decide) rfl kw162 dX3_strangest_18 ?_
    refine z_aload_n 0 hG dX3_strangest_21 rfl rfl ?_
    refine z_getR (t := 15) hG zcl3 (zlt hL (by decide)) (zl0 hL) 4 (by decide) rfl kw163 dX3_strangest_22 ?_
    refine z_iload_n 3 hG dX3_strangest_25 rfl rfl ?_
    refine z_callV [.ref (F.1 15), .int (zI line)] hG hR (kc26 c14) hd_X0_leastCost kw209 kw210 kw211 rfl (zlt hL (by decide)) (zl10 hL) (by decide) (by decide) (by decide) (by decide) rfl rfl (Nat.le_of_ble_eq_true rfl) dX3_strangest_26 (fun r I' hp => ?_)
    rw [hp.1, hp.2]
    show zW G F 0 0 J26 [(0, .ref (F.1 0)), (1, .int (zI found)), (2, .int (zI most)), (3, .int (zI line))] [.int (zI v26)] 29
    refine z_istore (lv' := [(4, .int (zI v26)), (0, .ref (F.1 0)), (1, .int (zI found)), (2, .int (zI most)), (3, .int (zI line))]) hG dX3_strangest_29 (by decide) rfl ?_
    refine z_iload 0 hG dX3_strangest_31 rfl ?_
    refine z_iload_n 3 hG dX3_strangest_33 rfl rfl ?_
    refine z_icmp_le (tgt := 42) hG dX3_strangest_34 (by decide) (by omega) (by omega) (fun c34 => ?_) (fun c34 => ?_)
    · skip
      refine z_iinc (lv' := [(3, .int (zI (line + 1))), (4, .int (zI v26)), (0, .ref (F.1 0)), (1, .int (zI found)), (2, .int (zI most))]) 4 hG dX3_strangest_42 rfl (by decide) rfl ?_
      refine z_goto (tgt := 6) hG dX3_strangest_45 (by decide) ?_
      refine z_perm (lv' := [(0, .ref (F.1 0)), (1, .int (zI found)), (2, .int (zI most)), (3, .int (zI (line + 1)))]) [2, 3, 4, 0] rfl ?_
      exact k5 c14 c34
    · skip
      refine z_iload 0 hG dX3_strangest_37 rfl ?_
      refine z_istore_n (lv' := [(2, .int (zI v26)), (4, .int (zI v26)), (0, .ref (F.1 0)), (1, .int (zI found)), (3, .int (zI line))]) hG dX3_strangest_39 rfl (by decide) rfl ?_
      refine z_iload_n 4 hG dX3_strangest_40 rfl rfl ?_
      refine z_istore_n (lv' := [(1, .int (zI line)), (2, .int (zI v26)), (4, .int (zI v26)), (0, .ref (F.1 0)), (3, .int (zI line))]) hG dX3_strangest_41 rfl (by decide) rfl ?_
      refine z_iinc (lv' := [(3, .int (zI (line + 1))), (1, .int (zI line)), (2, .int (zI v26)), (4, .int (zI v26)), (0, .ref (F.1 0))]) 4 hG dX3_strangest_42 rfl (by decide) rfl ?_
      refine z_goto (tgt := 6) hG dX3_strangest_45 (by decide) ?_
      refine z_perm (lv' := [(0, .ref (F.1 0)), (1, .int (zI line)), (2, .int (zI v26)), (3, .int (zI (line + 1)))]) [4, 1, 2, 0] rfl ?_
      exact k6 c14 c34

abbrev rm_X3_isTextBefore : Room := { frames := 3, cells := 0, slots := 0, locals := 68 }
abbrev rm_X3_distinct : Room := { frames := 7, cells := 1, slots := 6, locals := 103 }
def zbf (I : zStore) (id tx : Int) : Nat → Bool
  | 0 => false
  | j + 1 => zbf I id tx j || (ztx I j id == tx)
/-- how many different texts have used the slot id, of the first lines -/
def zdc (I : zStore) (id : Int) : Nat → Nat
  | 0 => 0
  | l + 1 => zdc I id l + if ztx I l id ≠ (-1) ∧ zbf I id (ztx I l id) l = false then 1 else 0
theorem zbf_t {I : zStore} {id tx : Int} {j : Nat} (h : ztx I j id = tx) : ∀ n : Nat, j < n → zbf I id tx n = true
  | 0, hn => absurd hn (by omega)
  | n + 1, hn => by
    simp only [zbf]
    by_cases e : j = n
    · subst e
      rw [show (ztx I j id == tx) = true from beq_iff_eq.mpr h, Bool.or_true]
    · rw [zbf_t h n (by omega), Bool.true_or]
/-- every line can be asked for the token of a slot -/
def zLn (I : zStore) (n : Int) : Prop := ∀ line : Int, 0 ≤ line → line < n → (0 ≤ I 22 line ∧ I 22 line ≤ 1) ∧ 0 ≤ I 4 line ∧ I 4 line ≤ 30
