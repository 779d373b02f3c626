theorem fa_first_eq {p : Nat → Bool} {n t : Nat} (ht : t < n) (h : p t = true) (hn : ∀ j, j < t → p j = false) : fa_first p n = t := by
  have h1 : ¬ t < fa_first p n := fun q => by rw [fa_first_no p n t q] at h; cases h
  have h2 := fa_first_yes p n (by omega)
  rcases Nat.lt_or_ge (fa_first p n) t with q | q
  · rw [hn _ q] at h2; cases h2
  · omega
theorem fa_first_all {p : Nat → Bool} {n : Nat} (hn : ∀ j, j < n → p j = false) : fa_first p n = n := by
  have h1 := fa_first_le p n
  rcases Nat.lt_or_ge (fa_first p n) n with q | q
  · have h2 := fa_first_yes p n q
    rw [hn _ q] at h2; cases h2
  · omega
/-- the token of the line that has used the slot id, -1 if there is none -/
def zti (I : zStore) (line id : Int) : Int := if I 22 line = 0 then (-1) else if fa_first (fun t => I 23 (line * 30 + t) == id) (I 4 line).toNat < (I 4 line).toNat then (fa_first (fun t => I 23 (line * 30 + t) == id) (I 4 line).toNat : Int) else (-1)
theorem zti_bd {I : zStore} {line id : Int} (h : 0 ≤ I 4 line ∧ I 4 line ≤ 30) : -1 ≤ zti I line id ∧ zti I line id < 30 ∧ zti I line id < I 4 line ∨ I 4 line = 0 ∧ zti I line id = -1 := by
  unfold zti
  repeat' split
  all_goals omega
abbrev rm_X3_tokenIn : Room := { frames := 1, cells := 0, slots := 0, locals := 21 }
set_option maxRecDepth 100000 in
set_option maxHeartbeats 4000000 in
theorem s_X3_tokenIn_0 {G : zCx} {F : zFr} {I : zStore} {post : Option Value → zStore → Prop}{line : Int} {id : Int} (hG : zOK G "LineLearner" cX3_tokenIn 5) (hR : zRoom G rm_X3_tokenIn) (hE : zRetI G F cX3_tokenIn 0 0 post) (hL : zLay F) (hr : zRg I) (h1 : 0 ≤ line ∧ line < 12) (h2 : 0 ≤ I 22 line ∧ I 22 line ≤ 1) (h3 : 0 ≤ I 4 line ∧ I 4 line ≤ 30)
    (k1 : ((I 22 line) ≠ 0) → zW G F 0 0 I [(0, .ref (F.1 0)), (1, .int (zI line)), (2, .int (zI id)), (3, .int (zI (I 4 line))), (4, .int (zI 0))] [] 24)
    (k2 : ((I 22 line) = 0) → post (some (.int (zI (-1)))) I) :
    zW G F 0 0 I [(0, .ref (F.1 0)), (1, .int (zI line)), (2, .int (zI id))] [] 0 := by
  refine z_aload_n 0 hG dX3_tokenIn_0 rfl rfl ?_
  refine z_getR (t := 22) hG zcl3 (zlt hL (by decide)) (zl0 hL) 5 (by decide) rfl kw164 dX3_tokenIn_1 ?_
  refine z_iload_n 1 hG dX3_tokenIn_4 rfl rfl ?_
  refine z_zald (v := I 22 line) hG (zlt hL (by decide)) (zl22 hL) (by decide) (by omega) rfl dX3_tokenIn_5 ?_
  refine z_if_ne (tgt := 11) hG dX3_tokenIn_6 (by decide) (hr _ _) (fun c6 => ?_) (fun c6 => ?_)
  · skip
    refine z_aload_n 0 hG dX3_tokenIn_11 rfl rfl ?_
    refine z_getR (t := 2) hG zcl3 (zlt hL (by decide)) (zl0 hL) 2 (by decide) rfl kw161 dX3_tokenIn_12 ?_
    refine z_getRN (t := 4) hG zcl2 (zlt hL (by decide)) (zl2 hL) 2 (by decide) rfl kw34 dX3_tokenIn_15 ?_
    refine z_iload_n 1 hG dX3_tokenIn_18 rfl rfl ?_
    refine z_iald (v := I 4 line) hG (zlt hL (by decide)) (zl4 hL) (by decide) (by omega) rfl dX3_tokenIn_19 ?_
    refine z_istore_n (lv' := [(3, .int (zI (I 4 line))), (0, .ref (F.1 0)), (1, .int (zI line)), (2, .int (zI id))]) hG dX3_tokenIn_20 rfl (by decide) rfl ?_
    refine z_iconst 0 hG dX3_tokenIn_21 ?_
    refine z_istore (lv' := [(4, .int (zI 0)), (3, .int (zI (I 4 line))), (0, .ref (F.1 0)), (1, .int (zI line)), (2, .int (zI id))]) hG dX3_tokenIn_22 (by decide) rfl ?_
    refine z_perm (lv' := [(0, .ref (F.1 0)), (1, .int (zI line)), (2, .int (zI id)), (3, .int (zI (I 4 line))), (4, .int (zI 0))]) [2, 3, 4, 1, 0] rfl ?_
    exact k1 c6
  · skip
    refine z_iconst (-1) hG dX3_tokenIn_9 ?_
    exact hE _ _ _ _ dX3_tokenIn_10 (k2 c6)

set_option maxRecDepth 100000 in
set_option maxHeartbeats 4000000 in
theorem s_X3_tokenIn_24 {G : zCx} {F : zFr} {I : zStore} {post : Option Value → zStore → Prop}{line id m t : Int} (hG : zOK G "LineLearner" cX3_tokenIn 5) (hR : zRoom G rm_X3_tokenIn) (hE : zRetI G F cX3_tokenIn 0 0 post) (hL : zLay F) (hr : zRg I) (h1 : 0 ≤ line ∧ line < 12) (h2 : 0 ≤ t ∧ t ≤ m ∧ m ≤ 30) (h3 : -2147483648 ≤ id ∧ id < 2147483648)
    (k1 : (m ≤ t) → post (some (.int (zI (-1)))) I)
    (k2 : (t < m) → ((I 23 ((line * 30) + t)) ≠ id) → zW G F 0 0 I [(0, .ref (F.1 0)), (1, .int (zI line)), (2, .int (zI id)), (3, .int (zI m)), (4, .int (zI (t + 1)))] [] 24)
    (k3 : (t < m) → ((I 23 ((line * 30) + t)) = id) → post (some (.int (zI t))) I) :
    zW G F 0 0 I [(0, .ref (F.1 0)), (1, .int (zI line)), (2, .int (zI id)), (3, .int (zI m)), (4, .int (zI t))] [] 24 := by
  refine z_iload 4 hG dX3_tokenIn_24 rfl ?_
  refine z_iload_n 3 hG dX3_tokenIn_26 rfl rfl ?_
  refine z_icmp_ge (tgt := 54) hG dX3_tokenIn_27 (by decide) (by omega) (by omega) (fun c27 => ?_) (fun c27 => ?_)
  · skip
    refine z_iconst (-1) hG dX3_tokenIn_54 ?_
    exact hE _ _ _ _ dX3_tokenIn_55 (k1 c27)
  · skip
    refine z_aload_n 0 hG dX3_tokenIn_30 rfl rfl ?_
    refine z_getR (t := 23) hG zcl3 (zlt hL (by decide)) (zl0 hL) 6 (by decide) rfl kw165 dX3_tokenIn_31 ?_
    refine z_iload_n 1 hG dX3_tokenIn_34 rfl rfl ?_
    refine z_iload 4 hG dX3_tokenIn_35 rfl ?_
    refine z_callS [.int (zI line), .int (zI t)] hG hR (c_X3_placeOf hr) hd_X3_placeOf kw255 kw229 (by decide) (by decide) (by decide) (by decide) rfl rfl (Nat.le_of_ble_eq_true rfl) dX3_tokenIn_37 (fun r I' hp => ?_)
    rw [hp.1, hp.2]
    show zW G F 0 0 I [(0, .ref (F.1 0)), (1, .int (zI line)), (2, .int (zI id)), (3, .int (zI m)), (4, .int (zI t))] [.int (zI ((line * 30) + t)), .ref (F.1 23)] 40
    refine z_iald (v := I 23 ((line * 30) + t)) hG (zlt hL (by decide)) (zl23 hL) (by decide) (by omega) rfl dX3_tokenIn_40 ?_
    refine z_iload_n 2 hG dX3_tokenIn_41 rfl rfl ?_
    refine z_icmp_ne (tgt := 48) hG dX3_tokenIn_42 (by decide) (hr _ _) (by omega) (fun c42 => ?_) (fun c42 => ?_)
    · skip
      refine z_iinc (lv' := [(4, .int (zI (t + 1))), (0, .ref (F.1 0)), (1, .int (zI line)), (2, .int (zI id)), (3, .int (zI m))]) 4 hG dX3_tokenIn_48 rfl (by decide) rfl ?_
      refine z_goto (tgt := 24) hG dX3_tokenIn_51 (by decide) ?_
      refine z_perm (lv' := [(0, .ref (F.1 0)), (1, .int (zI line)), (2, .int (zI id)), (3, .int (zI m)), (4, .int (zI (t + 1)))]) [1, 2, 3, 4, 0] rfl ?_
      exact k2 c27 c42
    · skip
      refine z_iload 4 hG dX3_tokenIn_45 rfl ?_
      exact hE _ _ _ _ dX3_tokenIn_47 (k3 c27 c42)

set_option maxHeartbeats 4000000 in
theorem c_X3_tokenIn {F : zFr} {I : zStore} {line id : Int} (hL : zLay F) (hr : zRg I) (h1 : 0 ≤ line ∧ line < 12) (h2 : 0 ≤ I 22 line ∧ I 22 line ≤ 1) (h3 : 0 ≤ I 4 line ∧ I 4 line ≤ 30) (h4 : -2147483648 ≤ id ∧ id < 2147483648) : ∀ (l : Launch) (D : va_G) (cs : Nat → ClassId), l.stackTraces = false → zMt l yX3_tokenIn cX3_tokenIn 5 (some .int) rm_X3_tokenIn D cs F I [.ref (F.1 0), .int (zI line), .int (zI id)] (fun r I' => r = some (.int (zI (zti I line id))) ∧ I' = I) := by
  intro l D cs hst
  refine zMt.ofI hst (by decide +kernel) (Nat.le_of_ble_eq_true rfl) fun G hG hR hE => ?_
  refine s_X3_tokenIn_0 hG hR hE hL hr h1 h2 h3 (fun e => ?_) (fun e => ?_)
  · have key : ∀ (d t : Nat), (t : Int) + d = I 4 line → (∀ j : Nat, j < t → I 23 (line * 30 + j) ≠ id) → zW G F 0 0 I [(0, .ref (F.1 0)), (1, .int (zI line)), (2, .int (zI id)), (3, .int (zI (I 4 line))), (4, .int (zI t))] [] 24 := by
      intro d
      induction d with
      | zero =>
        intro t ht hn
        refine s_X3_tokenIn_24 hG hR hE hL hr h1 (by omega) h4 (fun _ => ?_) (fun h => absurd h (by omega)) (fun h => absurd h (by omega))
        refine ⟨?_, rfl⟩
        unfold zti
        rw [if_neg e, if_neg]
        rw [fa_first_all (fun j hj => beq_false_of_ne (hn j (by omega)))]
        omega
      | succ d ih =>
        intro t ht hn
        refine s_X3_tokenIn_24 hG hR hE hL hr h1 (by omega) h4 (fun h => absurd h (by omega)) (fun _ q => ?_) (fun _ q => ?_)
        · refine ih (t + 1) (by omega) (fun j hj => ?_)
          rcases Nat.lt_or_ge j t with h | h
          · exact hn j h
          · rw [show j = t by omega]
            exact q
        · refine ⟨?_, rfl⟩
          have ef : fa_first (fun t => I 23 (line * 30 + t) == id) (I 4 line).toNat = t := fa_first_eq (by omega) (beq_iff_eq.mpr q) (fun j hj => beq_false_of_ne (hn j hj))
          unfold zti
          rw [if_neg e, ef, if_pos (by omega)]
    exact key (I 4 line).toNat 0 (by omega) (fun j h => absurd h (by omega))
  · refine ⟨?_, rfl⟩
    unfold zti
    rw [if_pos e]
/-- the text of the line's token in the slot id, -1 if there is none -/
def ztx (I : zStore) (line id : Int) : Int := if zti I line id = (-1) then (-1) else I 9 ((line * 30) + (zti I line id))
theorem ztx_rg {I : zStore} {line id : Int} (hr : zRg I) : -2147483648 ≤ ztx I line id ∧ ztx I line id < 2147483648 := by
  unfold ztx
  split
  · omega
  · exact hr _ _
abbrev rm_X3_textIn : Room := { frames := 2, cells := 0, slots := 0, locals := 45 }
abbrev rm_X3_tokenAt : Room := { frames := 7, cells := 2, slots := 12, locals := 103 }
set_option maxRecDepth 100000 in
set_option maxHeartbeats 4000000 in
theorem s_X3_tokenAt {G : zCx} {F : zFr} {I : zStore} {post : Option Value → zStore → Prop} {px : String → zStore → Prop}{line : Int} {slot : Int} (hG : zOK G "LineLearner" cX3_tokenAt 3) (hR : zRoom G rm_X3_tokenAt) (hE : zRetI G F cX3_tokenAt 2 12 post) (hT : zThr G F cX3_tokenAt 2 12 px) (hL : zLay F) (hr : zRg I) (hl : -2147483648 ≤ line ∧ line < 2147483648) (hs : -2147483648 ≤ slot ∧ slot < 2147483648) (hn : 0 ≤ I 2 0 ∧ I 2 0 ≤ 12) (hf : 0 ≤ I 15 0 ∧ I 15 0 ≤ 40) (g1 : ∀ _u : Unit, 0 ≤ line → line < I 2 0 → (0 ≤ I 22 line ∧ I 22 line ≤ 1) ∧ 0 ≤ I 4 line ∧ I 4 line ≤ 30)
    (k1 : (¬ (0 ≤ line ∧ line < I 2 0)) → px "java/lang/IndexOutOfBoundsException" I)
    (k2 : (0 ≤ line ∧ line < I 2 0) → (¬ (0 ≤ slot ∧ slot < I 15 0)) → px "java/lang/IndexOutOfBoundsException" I)
    (k3 : (0 ≤ line ∧ line < I 2 0) → (0 ≤ slot ∧ slot < I 15 0) → post (some (.int (zI (zti I line (I 16 slot))))) I) :
    zW G F 0 0 I [(0, .ref (F.1 0)), (1, .int (zI line)), (2, .int (zI slot))] [] 0 := by
  refine z_aload_n 0 hG dX3_tokenAt_0 rfl rfl ?_
  refine z_iload_n 1 hG dX3_tokenAt_1 rfl rfl ?_
  refine z_callVX [.int (zI line)] hG hR (c_X3_needLine hL hr (by omega)) hd_X3_needLine kw422 kw424 kp12 rfl (zlt hL (by decide)) (zl0 hL) (by decide) (by decide) (by decide) (by decide) rfl rfl (Nat.le_of_ble_eq_true rfl) dX3_tokenAt_2 (fun E I' hp => ?_) (fun r I' hp => ?_)
  · obtain ⟨hI, hx⟩ := hp
    rw [hI]
    obtain ⟨hE9, h⟩ := hx
    subst hE9
    exact hT.2.2 _ _ _ _ _ _ (by decide) (by decide) (k1 h)
  have p2 : 0 ≤ line ∧ line < I 2 0 := hp.1
  rw [hp.2.1, hp.2.2]
  show zW G F 1 6 I [(0, .ref (F.1 0)), (1, .int (zI line)), (2, .int (zI slot))] [] 5
  refine z_aload_n 0 hG dX3_tokenAt_5 rfl rfl ?_
  refine z_iload_n 1 hG dX3_tokenAt_6 rfl rfl ?_
  refine z_aload_n 0 hG dX3_tokenAt_7 rfl rfl ?_
  refine z_iload_n 2 hG dX3_tokenAt_8 rfl rfl ?_
  refine z_callVX [.int (zI slot)] hG hR (c_X3_neededSlot hL hr (by omega) (by omega)) hd_X3_neededSlot kw556 kw558 kp16 rfl (zlt hL (by decide)) (zl0 hL) (by decide) (by decide) (by decide) (by decide) rfl rfl (Nat.le_of_ble_eq_true rfl) dX3_tokenAt_9 (fun E I' hp => ?_) (fun r I' hp => ?_)
  · obtain ⟨hI, hx⟩ := hp
    rw [hI]
    obtain ⟨hE9, h⟩ := hx
    subst hE9
    exact hT.2.2 _ _ _ _ _ _ (by decide) (by decide) (k2 p2 h)
  have p9 : 0 ≤ slot ∧ slot < I 15 0 := hp.1
  rw [hp.2.1, hp.2.2]
  show zW G F 2 12 I [(0, .ref (F.1 0)), (1, .int (zI line)), (2, .int (zI slot))] [.int (zI (I 16 slot)), .int (zI line), .ref (F.1 0)] 12
  have q9 := g1 () p2.1 p2.2
  have q8 := hr 16 slot
  refine z_callV [.int (zI line), .int (zI (I 16 slot))] hG hR (c_X3_tokenIn hL hr (by omega) (by omega) (by omega) (by omega)) hd_X3_tokenIn kw597 kw599 kp17 rfl (zlt hL (by decide)) (zl0 hL) (by decide) (by decide) (by decide) (by decide) rfl rfl (Nat.le_of_ble_eq_true rfl) dX3_tokenAt_12 (fun r I' hp => ?_)
  rw [hp.1, hp.2]
  have ha12_0 : -1 ≤ (zti I line (I 16 slot)) ∧ (zti I line (I 16 slot)) < 30 ∧ (zti I line (I 16 slot)) < I 4 line ∨ I 4 line = 0 ∧ (zti I line (I 16 slot)) = -1 := zti_bd (by omega)
  show zW G F 2 12 I [(0, .ref (F.1 0)), (1, .int (zI line)), (2, .int (zI slot))] [.int (zI (zti I line (I 16 slot)))] 15
  exact hE _ _ _ _ dX3_tokenAt_15 (k3 p2 p9)

theorem c_X3_tokenAt {F : zFr} {I : zStore}  {line : Int} {slot : Int}  (hL : zLay F) (hr : zRg I) (hl : -2147483648 ≤ line ∧ line < 2147483648) (hs : -2147483648 ≤ slot ∧ slot < 2147483648) (hn : 0 ≤ I 2 0 ∧ I 2 0 ≤ 12) (hf : 0 ≤ I 15 0 ∧ I 15 0 ≤ 40) (g1 : ∀ _u : Unit, 0 ≤ line → line < I 2 0 → (0 ≤ I 22 line ∧ I 22 line ≤ 1) ∧ 0 ≤ I 4 line ∧ I 4 line ≤ 30) : ∀ (l : Launch) (D : va_G) (cs : Nat → ClassId), l.stackTraces = false → zMx l yX3_tokenAt cX3_tokenAt 3 (some .int) rm_X3_tokenAt D cs F I [.ref (F.1 0), .int (zI line), .int (zI slot)] (fun r I' => ((0 ≤ line ∧ line < I 2 0) ∧ 0 ≤ slot ∧ slot < I 15 0) ∧ r = some (.int (zI (zti I line (I 16 slot)))) ∧ I' = I) (fun E I' => I' = I ∧ ((E = "java/lang/IndexOutOfBoundsException" ∧ ¬ ((0 ≤ line ∧ line < I 2 0) ∧ 0 ≤ slot ∧ slot < I 15 0)))) :=
  fun l D cs hst => zMx.ofI hst (by decide +kernel) rfl (Nat.le_of_ble_eq_true rfl) fun G hG hR hE hT => s_X3_tokenAt hG hR hE hT hL hr hl hs hn hf g1
    (by intros; refine ⟨rfl, ?_⟩; first | exact ⟨rfl, by omega⟩ | exact Or.inl ⟨rfl, by omega⟩ | exact Or.inr ⟨rfl, by omega⟩)
    (by intros; refine ⟨rfl, ?_⟩; first | exact ⟨rfl, by omega⟩ | exact Or.inl ⟨rfl, by omega⟩ | exact Or.inr ⟨rfl, by omega⟩)
    (by intros; refine ⟨by omega, ?_, ?_⟩ <;> (repeat' split) <;> first | rfl | (exfalso; omega) | (simp only [zup_self]; done))
abbrev rm_X3_numberIn : Room := { frames := 2, cells := 0, slots := 0, locals := 45 }
abbrev rm_X3_sameAtFront : Room := { frames := 7, cells := 2, slots := 12, locals := 103 }
abbrev rm_X3_clear : Room := { frames := 1, cells := 0, slots := 0, locals := 20 }
set_option maxRecDepth 100000 in
set_option maxHeartbeats 4000000 in
theorem s_X3_clear_0 {G : zCx} {F : zFr} {I : zStore} {post : Option Value → zStore → Prop} (hG : zOK G "LineLearner" cX3_clear 3) (hR : zRoom G rm_X3_clear) (hE : zRetI G F cX3_clear 0 0 post) (hL : zLay F) (hr : zRg I)
    (k1 : zW G F 0 0 (zup (zup I 15 0 0) 15 1 0) [(0, .ref (F.1 0)), (1, .int (zI (I 15 1))), (2, .int (zI 0))] [] 17) :
    zW G F 0 0 I [(0, .ref (F.1 0))] [] 0 := by
  refine z_aload_n 0 hG dX3_clear_0 rfl rfl ?_
  refine z_getR (t := 15) hG zcl3 (zlt hL (by decide)) (zl0 hL) 4 (by decide) rfl kw163 dX3_clear_1 ?_
  refine z_getIN (v := I 15 1) hG zcl1 (zlt hL (by decide)) (zl15 hL) 1 (by decide) rfl rfl rfl kw123 dX3_clear_4 ?_
  refine z_istore_n (lv' := [(1, .int (zI (I 15 1))), (0, .ref (F.1 0))]) hG dX3_clear_7 rfl (by decide) rfl ?_
  refine z_aload_n 1 hG dX3_clear_8 rfl rfl ?_
  refine z_getR (t := 15) hG zcl3 (zlt hL (by decide)) (zl0 hL) 4 (by decide) rfl kw163 dX3_clear_9 ?_
  refine z_callV [] hG hR (c_X1_makeEmpty hr (zFm.at hL)) hd_X1_makeEmpty kw201 kw202 kw203 rfl (zlt hL (by decide)) (zl15 hL) (by decide) (by decide) (by decide) (by decide) rfl rfl (Nat.le_of_ble_eq_true rfl) dX3_clear_12 (fun r I' hp => ?_)
  rw [hp.1, hp.2]
  show zW G F 0 0 (zup (zup I 15 0 0) 15 1 0) [(1, .int (zI (I 15 1))), (0, .ref (F.1 0))] [] 15
  refine z_iconst 0 hG dX3_clear_15 ?_
  refine z_istore_n (lv' := [(2, .int (zI 0)), (1, .int (zI (I 15 1))), (0, .ref (F.1 0))]) hG dX3_clear_16 rfl (by decide) rfl ?_
  refine z_perm (lv' := [(0, .ref (F.1 0)), (1, .int (zI (I 15 1))), (2, .int (zI 0))]) [2, 1, 0] rfl ?_
  exact k1

set_option maxRecDepth 100000 in
set_option maxHeartbeats 4000000 in
theorem s_X3_clear_17 {G : zCx} {F : zFr} {I : zStore} {post : Option Value → zStore → Prop}{n i : Int} (hG : zOK G "LineLearner" cX3_clear 3) (hR : zRoom G rm_X3_clear) (hE : zRetI G F cX3_clear 0 0 post) (hL : zLay F) (hr : zRg I) (h1 : 0 ≤ i ∧ i ≤ 12)
    (k1 : (12 ≤ i) → post (some (.int (zI n))) I)
    (k2 : (i < 12) → zW G F 0 0 (zup I 22 i 0) [(0, .ref (F.1 0)), (1, .int (zI n)), (2, .int (zI (i + 1)))] [] 17) :
    zW G F 0 0 I [(0, .ref (F.1 0)), (1, .int (zI n)), (2, .int (zI i))] [] 17 := by
  refine z_iload_n 2 hG dX3_clear_17 rfl rfl ?_
  refine z_bipush 12 hG dX3_clear_18 (by decide) ?_
  refine z_icmp_ge (tgt := 36) hG dX3_clear_20 (by decide) (by omega) (by decide) (fun c20 => ?_) (fun c20 => ?_)
  · skip
    refine z_iload_n 1 hG dX3_clear_36 rfl rfl ?_
    exact hE _ _ _ _ dX3_clear_37 (k1 c20)
  · skip
    refine z_aload_n 0 hG dX3_clear_23 rfl rfl ?_
    refine z_getR (t := 22) hG zcl3 (zlt hL (by decide)) (zl0 hL) 5 (by decide) rfl kw164 dX3_clear_24 ?_
    refine z_iload_n 2 hG dX3_clear_27 rfl rfl ?_
    refine z_iconst 0 hG dX3_clear_28 ?_
    refine z_zast hG (zlt hL (by decide)) (zl22 hL) (by decide) (by omega) (by first | decide | omega) dX3_clear_29 ?_
    refine z_iinc (lv' := [(2, .int (zI (i + 1))), (0, .ref (F.1 0)), (1, .int (zI n))]) 2 hG dX3_clear_30 rfl (by decide) rfl ?_
    refine z_goto (tgt := 17) hG dX3_clear_33 (by decide) ?_
    refine z_perm (lv' := [(0, .ref (F.1 0)), (1, .int (zI n)), (2, .int (zI (i + 1)))]) [1, 2, 0] rfl ?_
    exact k2 c20

