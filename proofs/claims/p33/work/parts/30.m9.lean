theorem zs_174_265 : zSite "java/lang/IndexOutOfBoundsException" "there is no such line" ["java/lang/RuntimeException", "java/lang/Exception"] 174 265 178 := ⟨by decide +kernel, by decide +kernel, kw426, kw11, by decide +kernel, (show ∀ w ∈ vx_atS "LineLearner" 178 "java/lang/IndexOutOfBoundsException" ["java/lang/RuntimeException", "java/lang/Exception"], w ∈ lw_tbl ∧ zst w = true by decide +kernel), by decide +kernel⟩
theorem zs_174_267 : zSite "java/lang/IndexOutOfBoundsException" "there is no such token" ["java/lang/RuntimeException", "java/lang/Exception"] 174 267 178 := ⟨by decide +kernel, by decide +kernel, kw426, kw11, by decide +kernel, (show ∀ w ∈ vx_atS "LineLearner" 178 "java/lang/IndexOutOfBoundsException" ["java/lang/RuntimeException", "java/lang/Exception"], w ∈ lw_tbl ∧ zst w = true by decide +kernel), by decide +kernel⟩
theorem zs_55_125 : zSite "java/lang/IllegalArgumentException" "a cost is not 0 to 20" ["java/lang/RuntimeException", "java/lang/Exception"] 55 125 59 := ⟨by decide +kernel, by decide +kernel, kw298, kw9, by decide +kernel, (show ∀ w ∈ vx_atS "LineLearner" 59 "java/lang/IllegalArgumentException" ["java/lang/RuntimeException", "java/lang/Exception"], w ∈ lw_tbl ∧ zst w = true by decide +kernel), by decide +kernel⟩
theorem zs_174_269 : zSite "java/lang/IndexOutOfBoundsException" "there is no such slot" ["java/lang/RuntimeException", "java/lang/Exception"] 174 269 178 := ⟨by decide +kernel, by decide +kernel, kw426, kw11, by decide +kernel, (show ∀ w ∈ vx_atS "LineLearner" 178 "java/lang/IndexOutOfBoundsException" ["java/lang/RuntimeException", "java/lang/Exception"], w ∈ lw_tbl ∧ zst w = true by decide +kernel), by decide +kernel⟩
abbrev rm_X3_needLine : Room := { frames := 6, cells := 1, slots := 6, locals := 82 }
set_option maxRecDepth 100000 in
set_option maxHeartbeats 4000000 in
theorem s_X3_needLine {G : zCx} {F : zFr} {I : zStore} {post : Option Value → zStore → Prop} {px : String → zStore → Prop}{line : Int} (hG : zOK G "LineLearner" cX3_needLine 2) (hR : zRoom G rm_X3_needLine) (hE : zRetV G F cX3_needLine 1 6 post) (hT : zThr G F cX3_needLine 1 6 px) (hL : zLay F) (hr : zRg I) (hl : -2147483648 ≤ line ∧ line < 2147483648)
    (k1 : (line < 0) → px "java/lang/IndexOutOfBoundsException" I)
    (k2 : (0 ≤ line) → (line < (I 2 0)) → post (none) I)
    (k3 : (0 ≤ line) → ((I 2 0) ≤ line) → px "java/lang/IndexOutOfBoundsException" I) :
    zW G F 0 0 I [(0, .ref (F.1 0)), (1, .int (zI line))] [] 0 := by
  refine z_iload_n 1 hG dX3_needLine_0 rfl rfl ?_
  refine z_if_lt (tgt := 15) hG dX3_needLine_1 (by decide) (by omega) (fun c1 => ?_) (fun c1 => ?_)
  · skip
    exact hT.2.1 _ _ _ _ _ _ _ _ _ _ _ _ _ zs_174_265 dX3_needLine_15 dX3_needLine_18 dX3_needLine_19 dX3_needLine_22 dX3_needLine_25 hR (by decide) (Nat.le_of_ble_eq_true rfl) (by decide) (by decide) (by decide) (by decide) (k1 c1)
  · skip
    refine z_iload_n 1 hG dX3_needLine_4 rfl rfl ?_
    refine z_aload_n 0 hG dX3_needLine_5 rfl rfl ?_
    refine z_getR (t := 2) hG zcl3 (zlt hL (by decide)) (zl0 hL) 2 (by decide) rfl kw161 dX3_needLine_6 ?_
    refine z_getIN (v := I 2 0) hG zcl2 (zlt hL (by decide)) (zl2 hL) 0 (by decide) rfl rfl rfl kw29 dX3_needLine_9 ?_
    refine z_icmp_lt (tgt := 26) hG dX3_needLine_12 (by decide) (by omega) (hr _ _) (fun c12 => ?_) (fun c12 => ?_)
    · skip
      refine z_widen (k := 1) (n := 6) (by decide) (by decide) hR (by decide) (by decide) ?_
      exact hE _ _ _ dX3_needLine_26 (k2 c1 c12)
    · skip
      exact hT.2.1 _ _ _ _ _ _ _ _ _ _ _ _ _ zs_174_265 dX3_needLine_15 dX3_needLine_18 dX3_needLine_19 dX3_needLine_22 dX3_needLine_25 hR (by decide) (Nat.le_of_ble_eq_true rfl) (by decide) (by decide) (by decide) (by decide) (k3 c1 c12)

theorem c_X3_needLine {F : zFr} {I : zStore}  {line : Int}  (hL : zLay F) (hr : zRg I) (hl : -2147483648 ≤ line ∧ line < 2147483648) : ∀ (l : Launch) (D : va_G) (cs : Nat → ClassId), l.stackTraces = false → zMx l yX3_needLine cX3_needLine 2 none rm_X3_needLine D cs F I [.ref (F.1 0), .int (zI line)] (fun r I' => (0 ≤ line ∧ line < I 2 0) ∧ r = none ∧ I' = I) (fun E I' => I' = I ∧ ((E = "java/lang/IndexOutOfBoundsException" ∧ ¬ (0 ≤ line ∧ line < I 2 0)))) :=
  fun l D cs hst => zMx.ofV hst (by decide +kernel) rfl (Nat.le_of_ble_eq_true rfl) fun G hG hR hE hT => s_X3_needLine hG hR hE hT hL hr hl
    (by intros; refine ⟨rfl, ?_⟩; first | exact ⟨rfl, by omega⟩ | exact Or.inl ⟨rfl, by omega⟩ | exact Or.inr ⟨rfl, by omega⟩)
    (by intros; refine ⟨by omega, ?_, ?_⟩ <;> (repeat' split) <;> first | rfl | (exfalso; omega) | (simp only [zup_self]; done))
    (by intros; refine ⟨rfl, ?_⟩; first | exact ⟨rfl, by omega⟩ | exact Or.inl ⟨rfl, by omega⟩ | exact Or.inr ⟨rfl, by omega⟩)
abbrev rm_X3_lineCount : Room := { frames := 0, cells := 0, slots := 0, locals := 0 }
set_option maxRecDepth 100000 in
set_option maxHeartbeats 4000000 in
theorem s_X3_lineCount {G : zCx} {F : zFr} {I : zStore} {post : Option Value → zStore → Prop} (hG : zOK G "LineLearner" cX3_lineCount 1) (hR : zRoom G rm_X3_lineCount) (hE : zRetI G F cX3_lineCount 0 0 post) (hL : zLay F) (hr : zRg I)
    (k1 : post (some (.int (zI (I 2 0)))) I) :
    zW G F 0 0 I [(0, .ref (F.1 0))] [] 0 := by
  refine z_aload_n 0 hG dX3_lineCount_0 rfl rfl ?_
  refine z_getR (t := 2) hG zcl3 (zlt hL (by decide)) (zl0 hL) 2 (by decide) rfl kw161 dX3_lineCount_1 ?_
  refine z_getIN (v := I 2 0) hG zcl2 (zlt hL (by decide)) (zl2 hL) 0 (by decide) rfl rfl rfl kw29 dX3_lineCount_4 ?_
  exact hE _ _ _ _ dX3_lineCount_7 (k1)

theorem c_X3_lineCount {F : zFr} {I : zStore}    (hL : zLay F) (hr : zRg I) : ∀ (l : Launch) (D : va_G) (cs : Nat → ClassId), l.stackTraces = false → zMt l yX3_lineCount cX3_lineCount 1 (some .int) rm_X3_lineCount D cs F I [.ref (F.1 0)] (fun r I' => r = some (.int (zI (I 2 0))) ∧ I' = I) :=
  fun l D cs hst => zMt.ofI hst (by decide +kernel) (Nat.le_of_ble_eq_true rfl) fun G hG hR hE => s_X3_lineCount hG hR hE hL hr
    (by intros; refine ⟨?_, ?_⟩ <;> (repeat' split) <;> first | rfl | (exfalso; omega) | (simp only [zup_self]; done) | (simp only [zpc, zsk]; (repeat' split) <;> first | rfl | (exfalso; omega)))
abbrev rm_X3_tokenCount : Room := { frames := 7, cells := 1, slots := 6, locals := 103 }
set_option maxRecDepth 100000 in
set_option maxHeartbeats 4000000 in
theorem s_X3_tokenCount {G : zCx} {F : zFr} {I : zStore} {post : Option Value → zStore → Prop} {px : String → zStore → Prop}{line : Int} (hG : zOK G "LineLearner" cX3_tokenCount 2) (hR : zRoom G rm_X3_tokenCount) (hE : zRetI G F cX3_tokenCount 1 6 post) (hT : zThr G F cX3_tokenCount 1 6 px) (hL : zLay F) (hr : zRg I) (hl : -2147483648 ≤ line ∧ line < 2147483648) (hn : 0 ≤ I 2 0 ∧ I 2 0 ≤ 12)
    (k1 : (¬ (0 ≤ line ∧ line < I 2 0)) → px "java/lang/IndexOutOfBoundsException" I)
    (k2 : (0 ≤ line ∧ line < I 2 0) → post (some (.int (zI (I 4 line)))) I) :
    zW G F 0 0 I [(0, .ref (F.1 0)), (1, .int (zI line))] [] 0 := by
  refine z_aload_n 0 hG dX3_tokenCount_0 rfl rfl ?_
  refine z_iload_n 1 hG dX3_tokenCount_1 rfl rfl ?_
  refine z_callVX [.int (zI line)] hG hR (c_X3_needLine hL hr (by omega)) hd_X3_needLine kw422 kw424 kp12 rfl (zlt hL (by decide)) (zl0 hL) (by decide) (by decide) (by decide) (by decide) rfl rfl (Nat.le_of_ble_eq_true rfl) dX3_tokenCount_2 (fun E I' hp => ?_) (fun r I' hp => ?_)
  · obtain ⟨hI, hx⟩ := hp
    rw [hI]
    obtain ⟨hE9, h⟩ := hx
    subst hE9
    exact hT.2.2 _ _ _ _ _ _ (by decide) (by decide) (k1 h)
  have p2 : 0 ≤ line ∧ line < I 2 0 := hp.1
  rw [hp.2.1, hp.2.2]
  show zW G F 1 6 I [(0, .ref (F.1 0)), (1, .int (zI line))] [] 5
  refine z_aload_n 0 hG dX3_tokenCount_5 rfl rfl ?_
  refine z_getR (t := 2) hG zcl3 (zlt hL (by decide)) (zl0 hL) 2 (by decide) rfl kw161 dX3_tokenCount_6 ?_
  refine z_getRN (t := 4) hG zcl2 (zlt hL (by decide)) (zl2 hL) 2 (by decide) rfl kw34 dX3_tokenCount_9 ?_
  refine z_iload_n 1 hG dX3_tokenCount_12 rfl rfl ?_
  refine z_iald (v := I 4 line) hG (zlt hL (by decide)) (zl4 hL) (by decide) (by omega) rfl dX3_tokenCount_13 ?_
  exact hE _ _ _ _ dX3_tokenCount_14 (k2 p2)

theorem c_X3_tokenCount {F : zFr} {I : zStore}  {line : Int}  (hL : zLay F) (hr : zRg I) (hl : -2147483648 ≤ line ∧ line < 2147483648) (hn : 0 ≤ I 2 0 ∧ I 2 0 ≤ 12) : ∀ (l : Launch) (D : va_G) (cs : Nat → ClassId), l.stackTraces = false → zMx l yX3_tokenCount cX3_tokenCount 2 (some .int) rm_X3_tokenCount D cs F I [.ref (F.1 0), .int (zI line)] (fun r I' => (0 ≤ line ∧ line < I 2 0) ∧ r = some (.int (zI (I 4 line))) ∧ I' = I) (fun E I' => I' = I ∧ ((E = "java/lang/IndexOutOfBoundsException" ∧ ¬ (0 ≤ line ∧ line < I 2 0)))) :=
  fun l D cs hst => zMx.ofI hst (by decide +kernel) rfl (Nat.le_of_ble_eq_true rfl) fun G hG hR hE hT => s_X3_tokenCount hG hR hE hT hL hr hl hn
    (by intros; refine ⟨rfl, ?_⟩; first | exact ⟨rfl, by omega⟩ | exact Or.inl ⟨rfl, by omega⟩ | exact Or.inr ⟨rfl, by omega⟩)
    (by intros; refine ⟨by omega, ?_, ?_⟩ <;> (repeat' split) <;> first | rfl | (exfalso; omega) | (simp only [zup_self]; done))
abbrev rm_X3_needToken : Room := { frames := 7, cells := 2, slots := 12, locals := 103 }
set_option maxRecDepth 100000 in
set_option maxHeartbeats 4000000 in
theorem s_X3_needToken {G : zCx} {F : zFr} {I : zStore} {post : Option Value → zStore → Prop} {px : String → zStore → Prop}{line : Int} {token : Int} (hG : zOK G "LineLearner" cX3_needToken 3) (hR : zRoom G rm_X3_needToken) (hE : zRetV G F cX3_needToken 2 12 post) (hT : zThr G F cX3_needToken 2 12 px) (hL : zLay F) (hr : zRg I) (hl : -2147483648 ≤ line ∧ line < 2147483648) (ht : -2147483648 ≤ token ∧ token < 2147483648) (hn : 0 ≤ I 2 0 ∧ I 2 0 ≤ 12)
    (k1 : (¬ (0 ≤ line ∧ line < I 2 0)) → px "java/lang/IndexOutOfBoundsException" I)
    (k2 : (0 ≤ line ∧ line < I 2 0) → (token < 0) → px "java/lang/IndexOutOfBoundsException" I)
    (k3 : (0 ≤ line ∧ line < I 2 0) → (0 ≤ token) → (token < (I 4 line)) → post (none) I)
    (k4 : (0 ≤ line ∧ line < I 2 0) → (0 ≤ token) → ((I 4 line) ≤ token) → px "java/lang/IndexOutOfBoundsException" I) :
    zW G F 0 0 I [(0, .ref (F.1 0)), (1, .int (zI line)), (2, .int (zI token))] [] 0 := by
  refine z_aload_n 0 hG dX3_needToken_0 rfl rfl ?_
  refine z_iload_n 1 hG dX3_needToken_1 rfl rfl ?_
  refine z_callVX [.int (zI line)] hG hR (c_X3_needLine hL hr (by omega)) hd_X3_needLine kw422 kw424 kp12 rfl (zlt hL (by decide)) (zl0 hL) (by decide) (by decide) (by decide) (by decide) rfl rfl (Nat.le_of_ble_eq_true rfl) dX3_needToken_2 (fun E I' hp => ?_) (fun r I' hp => ?_)
  · obtain ⟨hI, hx⟩ := hp
    rw [hI]
    obtain ⟨hE9, h⟩ := hx
    subst hE9
    exact hT.2.2 _ _ _ _ _ _ (by decide) (by decide) (k1 h)
  have p2 : 0 ≤ line ∧ line < I 2 0 := hp.1
  rw [hp.2.1, hp.2.2]
  show zW G F 1 6 I [(0, .ref (F.1 0)), (1, .int (zI line)), (2, .int (zI token))] [] 5
  refine z_iload_n 2 hG dX3_needToken_5 rfl rfl ?_
  refine z_if_lt (tgt := 22) hG dX3_needToken_6 (by decide) (by omega) (fun c6 => ?_) (fun c6 => ?_)
  · skip
    exact hT.2.1 _ _ _ _ _ _ _ _ _ _ _ _ _ zs_174_267 dX3_needToken_22 dX3_needToken_25 dX3_needToken_26 dX3_needToken_29 dX3_needToken_32 hR (by decide) (Nat.le_of_ble_eq_true rfl) (by decide) (by decide) (by decide) (by decide) (k2 p2 c6)
  · skip
    refine z_iload_n 2 hG dX3_needToken_9 rfl rfl ?_
    refine z_aload_n 0 hG dX3_needToken_10 rfl rfl ?_
    refine z_getR (t := 2) hG zcl3 (zlt hL (by decide)) (zl0 hL) 2 (by decide) rfl kw161 dX3_needToken_11 ?_
    refine z_getRN (t := 4) hG zcl2 (zlt hL (by decide)) (zl2 hL) 2 (by decide) rfl kw34 dX3_needToken_14 ?_
    refine z_iload_n 1 hG dX3_needToken_17 rfl rfl ?_
    refine z_iald (v := I 4 line) hG (zlt hL (by decide)) (zl4 hL) (by decide) (by omega) rfl dX3_needToken_18 ?_
    refine z_icmp_lt (tgt := 33) hG dX3_needToken_19 (by decide) (by omega) (hr _ _) (fun c19 => ?_) (fun c19 => ?_)
    · skip
      refine z_widen (k := 2) (n := 12) (by decide) (by decide) hR (by decide) (by decide) ?_
      exact hE _ _ _ dX3_needToken_33 (k3 p2 c6 c19)
    · skip
      exact hT.2.1 _ _ _ _ _ _ _ _ _ _ _ _ _ zs_174_267 dX3_needToken_22 dX3_needToken_25 dX3_needToken_26 dX3_needToken_29 dX3_needToken_32 hR (by decide) (Nat.le_of_ble_eq_true rfl) (by decide) (by decide) (by decide) (by decide) (k4 p2 c6 c19)

theorem c_X3_needToken {F : zFr} {I : zStore}  {line : Int} {token : Int}  (hL : zLay F) (hr : zRg I) (hl : -2147483648 ≤ line ∧ line < 2147483648) (ht : -2147483648 ≤ token ∧ token < 2147483648) (hn : 0 ≤ I 2 0 ∧ I 2 0 ≤ 12) : ∀ (l : Launch) (D : va_G) (cs : Nat → ClassId), l.stackTraces = false → zMx l yX3_needToken cX3_needToken 3 none rm_X3_needToken D cs F I [.ref (F.1 0), .int (zI line), .int (zI token)] (fun r I' => ((0 ≤ line ∧ line < I 2 0) ∧ 0 ≤ token ∧ token < I 4 line) ∧ r = none ∧ I' = I) (fun E I' => I' = I ∧ ((E = "java/lang/IndexOutOfBoundsException" ∧ ¬ ((0 ≤ line ∧ line < I 2 0) ∧ 0 ≤ token ∧ token < I 4 line)))) :=
  fun l D cs hst => zMx.ofV hst (by decide +kernel) rfl (Nat.le_of_ble_eq_true rfl) fun G hG hR hE hT => s_X3_needToken hG hR hE hT hL hr hl ht hn
    (by intros; refine ⟨rfl, ?_⟩; first | exact ⟨rfl, by omega⟩ | exact Or.inl ⟨rfl, by omega⟩ | exact Or.inr ⟨rfl, by omega⟩)
    (by intros; refine ⟨rfl, ?_⟩; first | exact ⟨rfl, by omega⟩ | exact Or.inl ⟨rfl, by omega⟩ | exact Or.inr ⟨rfl, by omega⟩)
    (by intros; refine ⟨by omega, ?_, ?_⟩ <;> (repeat' split) <;> first | rfl | (exfalso; omega) | (simp only [zup_self]; done))
    (by intros; refine ⟨rfl, ?_⟩; first | exact ⟨rfl, by omega⟩ | exact Or.inl ⟨rfl, by omega⟩ | exact Or.inr ⟨rfl, by omega⟩)
abbrev rm_X3_tokenKind : Room := { frames := 8, cells := 2, slots := 12, locals := 125 }
set_option maxRecDepth 100000 in
set_option maxHeartbeats 4000000 in
theorem s_X3_tokenKind {G : zCx} {F : zFr} {I : zStore} {post : Option Value → zStore → Prop} {px : String → zStore → Prop}{line : Int} {token : Int} (hG : zOK G "LineLearner" cX3_tokenKind 3) (hR : zRoom G rm_X3_tokenKind) (hE : zRetI G F cX3_tokenKind 2 12 post) (hT : zThr G F cX3_tokenKind 2 12 px) (hL : zLay F) (hr : zRg I) (hl : -2147483648 ≤ line ∧ line < 2147483648) (ht : -2147483648 ≤ token ∧ token < 2147483648) (hn : 0 ≤ I 2 0 ∧ I 2 0 ≤ 12) (hm : ∀ _u : Unit, 0 ≤ line → line < I 2 0 → 0 ≤ I 4 line ∧ I 4 line ≤ 30)
    (k1 : (¬ ((0 ≤ line ∧ line < I 2 0) ∧ 0 ≤ token ∧ token < I 4 line)) → px "java/lang/IndexOutOfBoundsException" I)
    (k2 : ((0 ≤ line ∧ line < I 2 0) ∧ 0 ≤ token ∧ token < I 4 line) → post (some (.int (zI (I 6 ((line * 30) + token))))) I) :
    zW G F 0 0 I [(0, .ref (F.1 0)), (1, .int (zI line)), (2, .int (zI token))] [] 0 := by
  refine z_aload_n 0 hG dX3_tokenKind_0 rfl rfl ?_
  refine z_iload_n 1 hG dX3_tokenKind_1 rfl rfl ?_
  refine z_iload_n 2 hG dX3_tokenKind_2 rfl rfl ?_
  refine z_callVX [.int (zI line), .int (zI token)] hG hR (c_X3_needToken hL hr (by omega) (by omega) (by omega)) hd_X3_needToken kw449 kw451 kp13 rfl (zlt hL (by decide)) (zl0 hL) (by decide) (by decide) (by decide) (by decide) rfl rfl (Nat.le_of_ble_eq_true rfl) dX3_tokenKind_3 (fun E I' hp => ?_) (fun r I' hp => ?_)
  · obtain ⟨hI, hx⟩ := hp
    rw [hI]
    obtain ⟨hE9, h⟩ := hx
    subst hE9
    exact hT.2.2 _ _ _ _ _ _ (by decide) (by decide) (k1 h)
  have p3 : (0 ≤ line ∧ line < I 2 0) ∧ 0 ≤ token ∧ token < I 4 line := hp.1
  rw [hp.2.1, hp.2.2]
  show zW G F 2 12 I [(0, .ref (F.1 0)), (1, .int (zI line)), (2, .int (zI token))] [] 6
  have q9 := hm () p3.1.1 p3.1.2
  refine z_aload_n 0 hG dX3_tokenKind_6 rfl rfl ?_
  refine z_getR (t := 2) hG zcl3 (zlt hL (by decide)) (zl0 hL) 2 (by decide) rfl kw161 dX3_tokenKind_7 ?_
  refine z_getRN (t := 6) hG zcl2 (zlt hL (by decide)) (zl2 hL) 4 (by decide) rfl kw40 dX3_tokenKind_10 ?_
  refine z_iload_n 1 hG dX3_tokenKind_13 rfl rfl ?_
  refine z_iload_n 2 hG dX3_tokenKind_14 rfl rfl ?_
  refine z_callS [.int (zI line), .int (zI token)] hG hR (c_X3_placeOf hr) hd_X3_placeOf kw255 kw229 (by decide) (by decide) (by decide) (by decide) rfl rfl (Nat.le_of_ble_eq_true rfl) dX3_tokenKind_15 (fun r I' hp => ?_)
  rw [hp.1, hp.2]
  show zW G F 2 12 I [(0, .ref (F.1 0)), (1, .int (zI line)), (2, .int (zI token))] [.int (zI ((line * 30) + token)), .ref (F.1 6)] 18
  refine z_iald (v := I 6 ((line * 30) + token)) hG (zlt hL (by decide)) (zl6 hL) (by decide) (by omega) rfl dX3_tokenKind_18 ?_
  exact hE _ _ _ _ dX3_tokenKind_19 (k2 p3)

theorem c_X3_tokenKind {F : zFr} {I : zStore}  {line : Int} {token : Int}  (hL : zLay F) (hr : zRg I) (hl : -2147483648 ≤ line ∧ line < 2147483648) (ht : -2147483648 ≤ token ∧ token < 2147483648) (hn : 0 ≤ I 2 0 ∧ I 2 0 ≤ 12) (hm : ∀ _u : Unit, 0 ≤ line → line < I 2 0 → 0 ≤ I 4 line ∧ I 4 line ≤ 30) : ∀ (l : Launch) (D : va_G) (cs : Nat → ClassId), l.stackTraces = false → zMx l yX3_tokenKind cX3_tokenKind 3 (some .int) rm_X3_tokenKind D cs F I [.ref (F.1 0), .int (zI line), .int (zI token)] (fun r I' => ((0 ≤ line ∧ line < I 2 0) ∧ 0 ≤ token ∧ token < I 4 line) ∧ r = some (.int (zI (I 6 ((line * 30) + token)))) ∧ I' = I) (fun E I' => I' = I ∧ ((E = "java/lang/IndexOutOfBoundsException" ∧ ¬ ((0 ≤ line ∧ line < I 2 0) ∧ 0 ≤ token ∧ token < I 4 line)))) :=
  fun l D cs hst => zMx.ofI hst (by decide +kernel) rfl (Nat.le_of_ble_eq_true rfl) fun G hG hR hE hT => s_X3_tokenKind hG hR hE hT hL hr hl ht hn hm
    (by intros; refine ⟨rfl, ?_⟩; first | exact ⟨rfl, by omega⟩ | exact Or.inl ⟨rfl, by omega⟩ | exact Or.inr ⟨rfl, by omega⟩)
    (by intros; refine ⟨by omega, ?_, ?_⟩ <;> (repeat' split) <;> first | rfl | (exfalso; omega) | (simp only [zup_self]; done))
abbrev rm_X3_tokenStart : Room := { frames := 8, cells := 2, slots := 12, locals := 125 }
abbrev rm_X3_isCost : Room := { frames := 0, cells := 0, slots := 0, locals := 0 }
set_option maxRecDepth 100000 in
set_option maxHeartbeats 4000000 in
theorem s_X3_isCost {G : zCx} {F : zFr} {I : zStore} {post : Option Value → zStore → Prop}{c : Int} (hG : zOK G "LineLearner" cX3_isCost 1) (hR : zRoom G rm_X3_isCost) (hE : zRetZ G F cX3_isCost 0 0 post) (hr : zRg I) (hc : -2147483648 ≤ c ∧ c < 2147483648)
    (k1 : (c < 0) → post (some (.int (zI 0))) I)
    (k2 : (0 ≤ c) → (20 < c) → post (some (.int (zI 0))) I)
    (k3 : (0 ≤ c) → (c ≤ 20) → post (some (.int (zI 1))) I) :
    zW G F 0 0 I [(0, .int (zI c))] [] 0 := by
  refine z_iload_n 0 hG dX3_isCost_0 rfl rfl ?_
  refine z_if_lt (tgt := 14) hG dX3_isCost_1 (by decide) (by omega) (fun c1 => ?_) (fun c1 => ?_)
  · skip
    refine z_iconst 0 hG dX3_isCost_14 ?_
    exact hE _ _ _ _ dX3_isCost_15 (by first | decide | omega) (k1 c1)
  · skip
    refine z_iload_n 0 hG dX3_isCost_4 rfl rfl ?_
    refine z_bipush 20 hG dX3_isCost_5 (by decide) ?_
    refine z_icmp_gt (tgt := 14) hG dX3_isCost_7 (by decide) (by omega) (by decide) (fun c7 => ?_) (fun c7 => ?_)
    · skip
      refine z_iconst 0 hG dX3_isCost_14 ?_
      exact hE _ _ _ _ dX3_isCost_15 (by first | decide | omega) (k2 c1 c7)
    · skip
      refine z_iconst 1 hG dX3_isCost_10 ?_
      refine z_goto (tgt := 15) hG dX3_isCost_11 (by decide) ?_
      exact hE _ _ _ _ dX3_isCost_15 (by first | decide | omega) (k3 c1 c7)

theorem c_X3_isCost {F : zFr} {I : zStore}  {c : Int}  (hr : zRg I) (hc : -2147483648 ≤ c ∧ c < 2147483648) : ∀ (l : Launch) (D : va_G) (cs : Nat → ClassId), l.stackTraces = false → zMt l yX3_isCost cX3_isCost 1 (some .boolean) rm_X3_isCost D cs F I [.int (zI c)] (fun r I' => r = some (.int (zI (if 0 ≤ c ∧ c ≤ 20 then 1 else 0))) ∧ I' = I) :=
  fun l D cs hst => zMt.ofZ hst (by decide +kernel) (Nat.le_of_ble_eq_true rfl) fun G hG hR hE => s_X3_isCost hG hR hE hr hc
    (by intros; refine ⟨?_, ?_⟩ <;> (repeat' split) <;> first | rfl | (exfalso; omega) | (simp only [zup_self]; done) | (simp only [zpc, zsk]; (repeat' split) <;> first | rfl | (exfalso; omega)))
    (by intros; refine ⟨?_, ?_⟩ <;> (repeat' split) <;> first | rfl | (exfalso; omega) | (simp only [zup_self]; done) | (simp only [zpc, zsk]; (repeat' split) <;> first | rfl | (exfalso; omega)))
    (by intros; refine ⟨?_, ?_⟩ <;> (repeat' split) <;> first | rfl | (exfalso; omega) | (simp only [zup_self]; done) | (simp only [zpc, zsk]; (repeat' split) <;> first | rfl | (exfalso; omega)))
abbrev rm_X3_setCosts : Room := { frames := 6, cells := 1, slots := 6, locals := 82 }
set_option maxRecDepth 100000 in
set_option maxHeartbeats 4000000 in
theorem s_X3_setCosts {G : zCx} {F : zFr} {I : zStore} {post : Option Value → zStore → Prop} {px : String → zStore → Prop}{nc : Int} {ns : Int} {nf : Int} (hG : zOK G "LineLearner" cX3_setCosts 4) (hR : zRoom G rm_X3_setCosts) (hE : zRetZ G F cX3_setCosts 1 6 post) (hT : zThr G F cX3_setCosts 1 6 px) (hL : zLay F) (hr : zRg I) (h1 : -2147483648 ≤ nc ∧ nc < 2147483648) (h2 : -2147483648 ≤ ns ∧ ns < 2147483648) (h3 : -2147483648 ≤ nf ∧ nf < 2147483648)
    (k1 : (¬ (0 ≤ nc ∧ nc ≤ 20)) → px "java/lang/IllegalArgumentException" I)
    (k2 : (0 ≤ nc ∧ nc ≤ 20) → (¬ (0 ≤ ns ∧ ns ≤ 20)) → px "java/lang/IllegalArgumentException" I)
    (k3 : (0 ≤ nc ∧ nc ≤ 20) → (0 ≤ ns ∧ ns ≤ 20) → (0 ≤ nf ∧ nf ≤ 20) → post (some (.int (zI (if nc ≠ (zup I 0 7 0) 10 1 ∨ ns ≠ (zup I 0 7 0) 10 2 ∨ nf ≠ (zup I 0 7 0) 10 3 then 1 else 0)))) (zup (zup (zup (zup I 0 7 0) 10 1 nc) 10 2 ns) 10 3 nf))
    (k4 : (0 ≤ nc ∧ nc ≤ 20) → (0 ≤ ns ∧ ns ≤ 20) → (¬ (0 ≤ nf ∧ nf ≤ 20)) → px "java/lang/IllegalArgumentException" I) :
    zW G F 0 0 I [(0, .ref (F.1 0)), (1, .int (zI nc)), (2, .int (zI ns)), (3, .int (zI nf))] [] 0 := by
  refine z_iload_n 1 hG dX3_setCosts_0 rfl rfl ?_
  refine z_callS [.int (zI nc)] hG hR (c_X3_isCost hr (by omega)) hd_X3_isCost kw476 kw477 (by decide) (by decide) (by decide) (by decide) rfl rfl (Nat.le_of_ble_eq_true rfl) dX3_setCosts_1 (fun r I' hp => ?_)
  rw [hp.1, hp.2]
  show zW G F 0 0 I [(0, .ref (F.1 0)), (1, .int (zI nc)), (2, .int (zI ns)), (3, .int (zI nf))] [.int (zI (if 0 ≤ nc ∧ nc ≤ 20 then 1 else 0))] 4
  refine z_if_eq (tgt := 21) hG dX3_setCosts_4 (by decide) (by omega) (fun c4 => ?_) (fun c4 => ?_)
  · skip
    have c4b := zif_n c4
    exact hT.1 _ _ _ _ _ _ _ _ _ _ _ _ _ zs_55_125 dX3_setCosts_21 dX3_setCosts_24 dX3_setCosts_25 dX3_setCosts_27 dX3_setCosts_30 hR (by decide) (Nat.le_of_ble_eq_true rfl) (by decide) (by decide) (by decide) (by decide) (k1 c4b)
  · skip
    have c4b := zif_y c4
    refine z_iload_n 2 hG dX3_setCosts_7 rfl rfl ?_
    refine z_callS [.int (zI ns)] hG hR (c_X3_isCost hr (by omega)) hd_X3_isCost kw476 kw477 (by decide) (by decide) (by decide) (by decide) rfl rfl (Nat.le_of_ble_eq_true rfl) dX3_setCosts_8 (fun r I' hp => ?_)
    rw [hp.1, hp.2]
    show zW G F 0 0 I [(0, .ref (F.1 0)), (1, .int (zI nc)), (2, .int (zI ns)), (3, .int (zI nf))] [.int (zI (if 0 ≤ ns ∧ ns ≤ 20 then 1 else 0))] 11
    refine z_if_eq (tgt := 21) hG dX3_setCosts_11 (by decide) (by omega) (fun c11 => ?_) (fun c11 => ?_)
    · skip
      have c11b := zif_n c11
      exact hT.1 _ _ _ _ _ _ _ _ _ _ _ _ _ zs_55_125 dX3_setCosts_21 dX3_setCosts_24 dX3_setCosts_25 dX3_setCosts_27 dX3_setCosts_30 hR (by decide) (Nat.le_of_ble_eq_true rfl) (by decide) (by decide) (by decide) (by decide) (k2 c4b c11b)
    · skip
      have c11b := zif_y c11
      refine z_iload_n 3 hG dX3_setCosts_14 rfl rfl ?_
      refine z_callS [.int (zI nf)] hG hR (c_X3_isCost hr (by omega)) hd_X3_isCost kw476 kw477 (by decide) (by decide) (by decide) (by decide) rfl rfl (Nat.le_of_ble_eq_true rfl) dX3_setCosts_15 (fun r I' hp => ?_)
      rw [hp.1, hp.2]
      show zW G F 0 0 I [(0, .ref (F.1 0)), (1, .int (zI nc)), (2, .int (zI ns)), (3, .int (zI nf))] [.int (zI (if 0 ≤ nf ∧ nf ≤ 20 then 1 else 0))] 18
      refine z_if_ne (tgt := 31) hG dX3_setCosts_18 (by decide) (by omega) (fun c18 => ?_) (fun c18 => ?_)
      · skip
        have c18b := zif_y c18
        refine z_aload_n 0 hG dX3_setCosts_31 rfl rfl ?_
        refine z_iconst 0 hG dX3_setCosts_32 ?_
        refine z_putZ hG zcl3 (zlt hL (by decide)) (zl0 hL) 7 (by decide) (ki := 7) rfl rfl kw166 rfl rfl (by decide) dX3_setCosts_33 ?_
        refine z_aload_n 0 hG dX3_setCosts_36 rfl rfl ?_
        refine z_getR (t := 10) hG zcl3 (zlt hL (by decide)) (zl0 hL) 3 (by decide) rfl kw162 dX3_setCosts_37 ?_
        refine z_iload_n 1 hG dX3_setCosts_40 rfl rfl ?_
        refine z_iload_n 2 hG dX3_setCosts_41 rfl rfl ?_
        refine z_iload_n 3 hG dX3_setCosts_42 rfl rfl ?_
        refine z_callV [.int (zI nc), .int (zI ns), .int (zI nf)] hG hR (c_X0_takeCosts hL (zRg_up hr (by decide)) (by (try simp only [zup_k, zup_i, zup_at, ne_eq, not_false_eq_true, Nat.reduceEqDiff]); omega) (by (try simp only [zup_k, zup_i, zup_at, ne_eq, not_false_eq_true, Nat.reduceEqDiff]); omega) (by (try simp only [zup_k, zup_i, zup_at, ne_eq, not_false_eq_true, Nat.reduceEqDiff]); omega)) hd_X0_takeCosts kw480 kw481 kw482 rfl (zlt hL (by decide)) (zl10 hL) (by decide) (by decide) (by decide) (by decide) rfl rfl (Nat.le_of_ble_eq_true rfl) dX3_setCosts_43 (fun r I' hp => ?_)
        rw [hp.1, hp.2]
        show zW G F 0 0 (zup (zup (zup (zup I 0 7 0) 10 1 nc) 10 2 ns) 10 3 nf) [(0, .ref (F.1 0)), (1, .int (zI nc)), (2, .int (zI ns)), (3, .int (zI nf))] [.int (zI (if nc ≠ (zup I 0 7 0) 10 1 ∨ ns ≠ (zup I 0 7 0) 10 2 ∨ nf ≠ (zup I 0 7 0) 10 3 then 1 else 0))] 46
        refine z_widen (k := 1) (n := 6) (by decide) (by decide) hR (by decide) (by decide) ?_
        exact hE _ _ _ _ dX3_setCosts_46 (by first | decide | omega) (k3 c4b c11b c18b)
      · skip
        have c18b := zif_n c18
        exact hT.1 _ _ _ _ _ _ _ _ _ _ _ _ _ zs_55_125 dX3_setCosts_21 dX3_setCosts_24 dX3_setCosts_25 dX3_setCosts_27 dX3_setCosts_30 hR (by decide) (Nat.le_of_ble_eq_true rfl) (by decide) (by decide) (by decide) (by decide) (k4 c4b c11b c18b)

theorem c_X3_setCosts {F : zFr} {I : zStore}  {nc : Int} {ns : Int} {nf : Int}  (hL : zLay F) (hr : zRg I) (h1 : -2147483648 ≤ nc ∧ nc < 2147483648) (h2 : -2147483648 ≤ ns ∧ ns < 2147483648) (h3 : -2147483648 ≤ nf ∧ nf < 2147483648) : ∀ (l : Launch) (D : va_G) (cs : Nat → ClassId), l.stackTraces = false → zMx l yX3_setCosts cX3_setCosts 4 (some .boolean) rm_X3_setCosts D cs F I [.ref (F.1 0), .int (zI nc), .int (zI ns), .int (zI nf)] (fun r I' => ((0 ≤ nc ∧ nc ≤ 20) ∧ (0 ≤ ns ∧ ns ≤ 20) ∧ 0 ≤ nf ∧ nf ≤ 20) ∧ r = some (.int (zI (if nc ≠ I 10 1 ∨ ns ≠ I 10 2 ∨ nf ≠ I 10 3 then 1 else 0))) ∧ I' = (zup (zup (zup (zup I 0 7 0) 10 1 nc) 10 2 ns) 10 3 nf)) (fun E I' => I' = I ∧ ((E = "java/lang/IllegalArgumentException" ∧ ¬ ((0 ≤ nc ∧ nc ≤ 20) ∧ (0 ≤ ns ∧ ns ≤ 20) ∧ 0 ≤ nf ∧ nf ≤ 20)))) :=
  fun l D cs hst => zMx.ofZ hst (by decide +kernel) rfl (Nat.le_of_ble_eq_true rfl) fun G hG hR hE hT => s_X3_setCosts hG hR hE hT hL hr h1 h2 h3
    (by intros; refine ⟨rfl, ?_⟩; first | exact ⟨rfl, by omega⟩ | exact Or.inl ⟨rfl, by omega⟩ | exact Or.inr ⟨rfl, by omega⟩)
    (by intros; refine ⟨rfl, ?_⟩; first | exact ⟨rfl, by omega⟩ | exact Or.inl ⟨rfl, by omega⟩ | exact Or.inr ⟨rfl, by omega⟩)
    (by intros; refine ⟨by omega, ?_, rfl⟩; rw [zup_k (by decide), zup_k (by decide), zup_k (by decide)])
    (by intros; refine ⟨rfl, ?_⟩; first | exact ⟨rfl, by omega⟩ | exact Or.inl ⟨rfl, by omega⟩ | exact Or.inr ⟨rfl, by omega⟩)
abbrev rm_X3_isMerged : Room := { frames := 7, cells := 1, slots := 6, locals := 103 }
set_option maxRecDepth 100000 in
set_option maxHeartbeats 4000000 in
theorem s_X3_isMerged {G : zCx} {F : zFr} {I : zStore} {post : Option Value → zStore → Prop} {px : String → zStore → Prop}{line : Int} (hG : zOK G "LineLearner" cX3_isMerged 2) (hR : zRoom G rm_X3_isMerged) (hE : zRetZ G F cX3_isMerged 1 6 post) (hT : zThr G F cX3_isMerged 1 6 px) (hL : zLay F) (hr : zRg I) (hl : -2147483648 ≤ line ∧ line < 2147483648) (hn : 0 ≤ I 2 0 ∧ I 2 0 ≤ 12) (hb : ∀ _u : Unit, 0 ≤ line → line < I 2 0 → 0 ≤ I 22 line ∧ I 22 line ≤ 1)
    (k1 : (¬ (0 ≤ line ∧ line < I 2 0)) → px "java/lang/IndexOutOfBoundsException" I)
    (k2 : (0 ≤ line ∧ line < I 2 0) → post (some (.int (zI (I 22 line)))) I) :
    zW G F 0 0 I [(0, .ref (F.1 0)), (1, .int (zI line))] [] 0 := by
  refine z_aload_n 0 hG dX3_isMerged_0 rfl rfl ?_
  refine z_iload_n 1 hG dX3_isMerged_1 rfl rfl ?_
  refine z_callVX [.int (zI line)] hG hR (c_X3_needLine hL hr (by omega)) hd_X3_needLine kw422 kw424 kp12 rfl (zlt hL (by decide)) (zl0 hL) (by decide) (by decide) (by decide) (by decide) rfl rfl (Nat.le_of_ble_eq_true rfl) dX3_isMerged_2 (fun E I' hp => ?_) (fun r I' hp => ?_)
  · obtain ⟨hI, hx⟩ := hp
    rw [hI]
    obtain ⟨hE9, h⟩ := hx
    subst hE9
    exact hT.2.2 _ _ _ _ _ _ (by decide) (by decide) (k1 h)
  have p2 : 0 ≤ line ∧ line < I 2 0 := hp.1
  rw [hp.2.1, hp.2.2]
  show zW G F 1 6 I [(0, .ref (F.1 0)), (1, .int (zI line))] [] 5
  have q9 := hb () p2.1 p2.2
  refine z_aload_n 0 hG dX3_isMerged_5 rfl rfl ?_
  refine z_getR (t := 22) hG zcl3 (zlt hL (by decide)) (zl0 hL) 5 (by decide) rfl kw164 dX3_isMerged_6 ?_
  refine z_iload_n 1 hG dX3_isMerged_9 rfl rfl ?_
  refine z_zald (v := I 22 line) hG (zlt hL (by decide)) (zl22 hL) (by decide) (by omega) rfl dX3_isMerged_10 ?_
  exact hE _ _ _ _ dX3_isMerged_11 (by first | decide | omega) (k2 p2)

theorem c_X3_isMerged {F : zFr} {I : zStore}  {line : Int}  (hL : zLay F) (hr : zRg I) (hl : -2147483648 ≤ line ∧ line < 2147483648) (hn : 0 ≤ I 2 0 ∧ I 2 0 ≤ 12) (hb : ∀ _u : Unit, 0 ≤ line → line < I 2 0 → 0 ≤ I 22 line ∧ I 22 line ≤ 1) : ∀ (l : Launch) (D : va_G) (cs : Nat → ClassId), l.stackTraces = false → zMx l yX3_isMerged cX3_isMerged 2 (some .boolean) rm_X3_isMerged D cs F I [.ref (F.1 0), .int (zI line)] (fun r I' => (0 ≤ line ∧ line < I 2 0) ∧ r = some (.int (zI (I 22 line))) ∧ I' = I) (fun E I' => I' = I ∧ ((E = "java/lang/IndexOutOfBoundsException" ∧ ¬ (0 ≤ line ∧ line < I 2 0)))) :=
  fun l D cs hst => zMx.ofZ hst (by decide +kernel) rfl (Nat.le_of_ble_eq_true rfl) fun G hG hR hE hT => s_X3_isMerged hG hR hE hT hL hr hl hn hb
    (by intros; refine ⟨rfl, ?_⟩; first | exact ⟨rfl, by omega⟩ | exact Or.inl ⟨rfl, by omega⟩ | exact Or.inr ⟨rfl, by omega⟩)
    (by intros; refine ⟨by omega, ?_, ?_⟩ <;> (repeat' split) <;> first | rfl | (exfalso; omega) | (simp only [zup_self]; done))
abbrev rm_X3_slotCount : Room := { frames := 0, cells := 0, slots := 0, locals := 0 }
set_option maxRecDepth 100000 in
set_option maxHeartbeats 4000000 in
theorem s_X3_slotCount {G : zCx} {F : zFr} {I : zStore} {post : Option Value → zStore → Prop} (hG : zOK G "LineLearner" cX3_slotCount 1) (hR : zRoom G rm_X3_slotCount) (hE : zRetI G F cX3_slotCount 0 0 post) (hL : zLay F) (hr : zRg I)
    (k1 : post (some (.int (zI (I 15 0)))) I) :
    zW G F 0 0 I [(0, .ref (F.1 0))] [] 0 := by
  refine z_aload_n 0 hG dX3_slotCount_0 rfl rfl ?_
  refine z_getR (t := 15) hG zcl3 (zlt hL (by decide)) (zl0 hL) 4 (by decide) rfl kw163 dX3_slotCount_1 ?_
  refine z_getIN (v := I 15 0) hG zcl1 (zlt hL (by decide)) (zl15 hL) 0 (by decide) rfl rfl rfl kw120 dX3_slotCount_4 ?_
  exact hE _ _ _ _ dX3_slotCount_7 (k1)

theorem c_X3_slotCount {F : zFr} {I : zStore}    (hL : zLay F) (hr : zRg I) : ∀ (l : Launch) (D : va_G) (cs : Nat → ClassId), l.stackTraces = false → zMt l yX3_slotCount cX3_slotCount 1 (some .int) rm_X3_slotCount D cs F I [.ref (F.1 0)] (fun r I' => r = some (.int (zI (I 15 0))) ∧ I' = I) :=
  fun l D cs hst => zMt.ofI hst (by decide +kernel) (Nat.le_of_ble_eq_true rfl) fun G hG hR hE => s_X3_slotCount hG hR hE hL hr
    (by intros; refine ⟨?_, ?_⟩ <;> (repeat' split) <;> first | rfl | (exfalso; omega) | (simp only [zup_self]; done) | (simp only [zpc, zsk]; (repeat' split) <;> first | rfl | (exfalso; omega)))
abbrev rm_X3_neededSlot : Room := { frames := 6, cells := 1, slots := 6, locals := 82 }
set_option maxRecDepth 100000 in
set_option maxHeartbeats 4000000 in
theorem s_X3_neededSlot {G : zCx} {F : zFr} {I : zStore} {post : Option Value → zStore → Prop} {px : String → zStore → Prop}{slot : Int} (hG : zOK G "LineLearner" cX3_neededSlot 2) (hR : zRoom G rm_X3_neededSlot) (hE : zRetI G F cX3_neededSlot 1 6 post) (hT : zThr G F cX3_neededSlot 1 6 px) (hL : zLay F) (hr : zRg I) (hs : -2147483648 ≤ slot ∧ slot < 2147483648) (hf : 0 ≤ I 15 0 ∧ I 15 0 ≤ 40)
    (k1 : (slot < 0) → px "java/lang/IndexOutOfBoundsException" I)
    (k2 : (0 ≤ slot) → (slot < (I 15 0)) → post (some (.int (zI (I 16 slot)))) I)
    (k3 : (0 ≤ slot) → ((I 15 0) ≤ slot) → px "java/lang/IndexOutOfBoundsException" I) :
    zW G F 0 0 I [(0, .ref (F.1 0)), (1, .int (zI slot))] [] 0 := by
  refine z_iload_n 1 hG dX3_neededSlot_0 rfl rfl ?_
  refine z_if_lt (tgt := 15) hG dX3_neededSlot_1 (by decide) (by omega) (fun c1 => ?_) (fun c1 => ?_)
  · skip
    exact hT.2.1 _ _ _ _ _ _ _ _ _ _ _ _ _ zs_174_269 dX3_neededSlot_15 dX3_neededSlot_18 dX3_neededSlot_19 dX3_neededSlot_22 dX3_neededSlot_25 hR (by decide) (Nat.le_of_ble_eq_true rfl) (by decide) (by decide) (by decide) (by decide) (k1 c1)
  · skip
    refine z_iload_n 1 hG dX3_neededSlot_4 rfl rfl ?_
    refine z_aload_n 0 hG dX3_neededSlot_5 rfl rfl ?_
    refine z_getR (t := 15) hG zcl3 (zlt hL (by decide)) (zl0 hL) 4 (by decide) rfl kw163 dX3_neededSlot_6 ?_
    refine z_getIN (v := I 15 0) hG zcl1 (zlt hL (by decide)) (zl15 hL) 0 (by decide) rfl rfl rfl kw120 dX3_neededSlot_9 ?_
    refine z_icmp_lt (tgt := 26) hG dX3_neededSlot_12 (by decide) (by omega) (hr _ _) (fun c12 => ?_) (fun c12 => ?_)
    · skip
      refine z_aload_n 0 hG dX3_neededSlot_26 rfl rfl ?_
      refine z_getR (t := 15) hG zcl3 (zlt hL (by decide)) (zl0 hL) 4 (by decide) rfl kw163 dX3_neededSlot_27 ?_
      refine z_getRN (t := 16) hG zcl1 (zlt hL (by decide)) (zl15 hL) 2 (by decide) rfl kw126 dX3_neededSlot_30 ?_
      refine z_iload_n 1 hG dX3_neededSlot_33 rfl rfl ?_
      refine z_iald (v := I 16 slot) hG (zlt hL (by decide)) (zl16 hL) (by decide) (by omega) rfl dX3_neededSlot_34 ?_
      refine z_widen (k := 1) (n := 6) (by decide) (by decide) hR (by decide) (by decide) ?_
      exact hE _ _ _ _ dX3_neededSlot_35 (k2 c1 c12)
    · skip
      exact hT.2.1 _ _ _ _ _ _ _ _ _ _ _ _ _ zs_174_269 dX3_neededSlot_15 dX3_neededSlot_18 dX3_neededSlot_19 dX3_neededSlot_22 dX3_neededSlot_25 hR (by decide) (Nat.le_of_ble_eq_true rfl) (by decide) (by decide) (by decide) (by decide) (k3 c1 c12)

theorem c_X3_neededSlot {F : zFr} {I : zStore}  {slot : Int}  (hL : zLay F) (hr : zRg I) (hs : -2147483648 ≤ slot ∧ slot < 2147483648) (hf : 0 ≤ I 15 0 ∧ I 15 0 ≤ 40) : ∀ (l : Launch) (D : va_G) (cs : Nat → ClassId), l.stackTraces = false → zMx l yX3_neededSlot cX3_neededSlot 2 (some .int) rm_X3_neededSlot D cs F I [.ref (F.1 0), .int (zI slot)] (fun r I' => (0 ≤ slot ∧ slot < I 15 0) ∧ r = some (.int (zI (I 16 slot))) ∧ I' = I) (fun E I' => I' = I ∧ ((E = "java/lang/IndexOutOfBoundsException" ∧ ¬ (0 ≤ slot ∧ slot < I 15 0)))) :=
  fun l D cs hst => zMx.ofI hst (by decide +kernel) rfl (Nat.le_of_ble_eq_true rfl) fun G hG hR hE hT => s_X3_neededSlot hG hR hE hT hL hr hs hf
    (by intros; refine ⟨rfl, ?_⟩; first | exact ⟨rfl, by omega⟩ | exact Or.inl ⟨rfl, by omega⟩ | exact Or.inr ⟨rfl, by omega⟩)
    (by intros; refine ⟨by omega, ?_, ?_⟩ <;> (repeat' split) <;> first | rfl | (exfalso; omega) | (simp only [zup_self]; done))
    (by intros; refine ⟨rfl, ?_⟩; first | exact ⟨rfl, by omega⟩ | exact Or.inl ⟨rfl, by omega⟩ | exact Or.inr ⟨rfl, by omega⟩)
abbrev rm_X3_slotKind : Room := { frames := 7, cells := 1, slots := 6, locals := 103 }
set_option maxRecDepth 100000 in
set_option maxHeartbeats 4000000 in
theorem s_X3_slotKind {G : zCx} {F : zFr} {I : zStore} {post : Option Value → zStore → Prop} {px : String → zStore → Prop}{slot : Int} (hG : zOK G "LineLearner" cX3_slotKind 2) (hR : zRoom G rm_X3_slotKind) (hE : zRetI G F cX3_slotKind 1 6 post) (hT : zThr G F cX3_slotKind 1 6 px) (hL : zLay F) (hr : zRg I) (hs : -2147483648 ≤ slot ∧ slot < 2147483648) (hf : 0 ≤ I 15 0 ∧ I 15 0 ≤ 40) (ho : ∀ _u : Unit, 0 ≤ slot → slot < I 15 0 → 0 ≤ I 16 slot ∧ I 16 slot < 40)
    (k1 : (¬ (0 ≤ slot ∧ slot < I 15 0)) → px "java/lang/IndexOutOfBoundsException" I)
    (k2 : (0 ≤ slot ∧ slot < I 15 0) → post (some (.int (zI (I 17 (I 16 slot))))) I) :
    zW G F 0 0 I [(0, .ref (F.1 0)), (1, .int (zI slot))] [] 0 := by
  refine z_aload_n 0 hG dX3_slotKind_0 rfl rfl ?_
  refine z_getR (t := 15) hG zcl3 (zlt hL (by decide)) (zl0 hL) 4 (by decide) rfl kw163 dX3_slotKind_1 ?_
  refine z_getRN (t := 17) hG zcl1 (zlt hL (by decide)) (zl15 hL) 3 (by decide) rfl kw129 dX3_slotKind_4 ?_
  refine z_aload_n 0 hG dX3_slotKind_7 rfl rfl ?_
  refine z_iload_n 1 hG dX3_slotKind_8 rfl rfl ?_
  refine z_callVX [.int (zI slot)] hG hR (c_X3_neededSlot hL hr (by omega) (by omega)) hd_X3_neededSlot kw556 kw558 kp16 rfl (zlt hL (by decide)) (zl0 hL) (by decide) (by decide) (by decide) (by decide) rfl rfl (Nat.le_of_ble_eq_true rfl) dX3_slotKind_9 (fun E I' hp => ?_) (fun r I' hp => ?_)
  · obtain ⟨hI, hx⟩ := hp
    rw [hI]
    obtain ⟨hE9, h⟩ := hx
    subst hE9
    exact hT.2.2 _ _ _ _ _ _ (by decide) (by decide) (k1 h)
  have p9 : 0 ≤ slot ∧ slot < I 15 0 := hp.1
  rw [hp.2.1, hp.2.2]
  show zW G F 1 6 I [(0, .ref (F.1 0)), (1, .int (zI slot))] [.int (zI (I 16 slot)), .ref (F.1 17)] 12
  have q9 := ho () p9.1 p9.2
  refine z_iald (v := I 17 (I 16 slot)) hG (zlt hL (by decide)) (zl17 hL) (by decide) (by omega) rfl dX3_slotKind_12 ?_
  exact hE _ _ _ _ dX3_slotKind_13 (k2 p9)

theorem c_X3_slotKind {F : zFr} {I : zStore}  {slot : Int}  (hL : zLay F) (hr : zRg I) (hs : -2147483648 ≤ slot ∧ slot < 2147483648) (hf : 0 ≤ I 15 0 ∧ I 15 0 ≤ 40) (ho : ∀ _u : Unit, 0 ≤ slot → slot < I 15 0 → 0 ≤ I 16 slot ∧ I 16 slot < 40) : ∀ (l : Launch) (D : va_G) (cs : Nat → ClassId), l.stackTraces = false → zMx l yX3_slotKind cX3_slotKind 2 (some .int) rm_X3_slotKind D cs F I [.ref (F.1 0), .int (zI slot)] (fun r I' => (0 ≤ slot ∧ slot < I 15 0) ∧ r = some (.int (zI (I 17 (I 16 slot)))) ∧ I' = I) (fun E I' => I' = I ∧ ((E = "java/lang/IndexOutOfBoundsException" ∧ ¬ (0 ≤ slot ∧ slot < I 15 0)))) :=
  fun l D cs hst => zMx.ofI hst (by decide +kernel) rfl (Nat.le_of_ble_eq_true rfl) fun G hG hR hE hT => s_X3_slotKind hG hR hE hT hL hr hs hf ho
    (by intros; refine ⟨rfl, ?_⟩; first | exact ⟨rfl, by omega⟩ | exact Or.inl ⟨rfl, by omega⟩ | exact Or.inr ⟨rfl, by omega⟩)
    (by intros; refine ⟨by omega, ?_, ?_⟩ <;> (repeat' split) <;> first | rfl | (exfalso; omega) | (simp only [zup_self]; done))
abbrev rm_X3_uses : Room := { frames := 7, cells := 1, slots := 6, locals := 103 }
abbrev rm_X3_isOptional : Room := { frames := 7, cells := 1, slots := 6, locals := 103 }
set_option maxRecDepth 100000 in
set_option maxHeartbeats 4000000 in
theorem s_X3_isOptional {G : zCx} {F : zFr} {I : zStore} {post : Option Value → zStore → Prop} {px : String → zStore → Prop}{slot : Int} (hG : zOK G "LineLearner" cX3_isOptional 2) (hR : zRoom G rm_X3_isOptional) (hE : zRetZ G F cX3_isOptional 1 6 post) (hT : zThr G F cX3_isOptional 1 6 px) (hL : zLay F) (hr : zRg I) (hs : -2147483648 ≤ slot ∧ slot < 2147483648) (hf : 0 ≤ I 15 0 ∧ I 15 0 ≤ 40) (ho : ∀ _u : Unit, 0 ≤ slot → slot < I 15 0 → 0 ≤ I 16 slot ∧ I 16 slot < 40)
    (k1 : (¬ (0 ≤ slot ∧ slot < I 15 0)) → px "java/lang/IndexOutOfBoundsException" I)
    (k2 : (0 ≤ slot ∧ slot < I 15 0) → post (some (.int (zI (if I (15 + 6) (I 16 slot) < I 15 1 then 1 else 0)))) I) :
    zW G F 0 0 I [(0, .ref (F.1 0)), (1, .int (zI slot))] [] 0 := by
  refine z_aload_n 0 hG dX3_isOptional_0 rfl rfl ?_
  refine z_getR (t := 15) hG zcl3 (zlt hL (by decide)) (zl0 hL) 4 (by decide) rfl kw163 dX3_isOptional_1 ?_
  refine z_aload_n 0 hG dX3_isOptional_4 rfl rfl ?_
  refine z_iload_n 1 hG dX3_isOptional_5 rfl rfl ?_
  refine z_callVX [.int (zI slot)] hG hR (c_X3_neededSlot hL hr (by omega) (by omega)) hd_X3_neededSlot kw556 kw558 kp16 rfl (zlt hL (by decide)) (zl0 hL) (by decide) (by decide) (by decide) (by decide) rfl rfl (Nat.le_of_ble_eq_true rfl) dX3_isOptional_6 (fun E I' hp => ?_) (fun r I' hp => ?_)
  · obtain ⟨hI, hx⟩ := hp
    rw [hI]
    obtain ⟨hE9, h⟩ := hx
    subst hE9
    exact hT.2.2 _ _ _ _ _ _ (by decide) (by decide) (k1 h)
  have p6 : 0 ≤ slot ∧ slot < I 15 0 := hp.1
  rw [hp.2.1, hp.2.2]
  show zW G F 1 6 I [(0, .ref (F.1 0)), (1, .int (zI slot))] [.int (zI (I 16 slot)), .ref (F.1 15)] 9
  have q9 := ho () p6.1 p6.2
  refine z_callV [.int (zI (I 16 slot))] hG hR (c_X1_canMiss hr (zFm.at hL) (by omega)) hd_X1_canMiss kw250 kw222 kw223 rfl (zlt hL (by decide)) (zl15 hL) (by decide) (by decide) (by decide) (by decide) rfl rfl (Nat.le_of_ble_eq_true rfl) dX3_isOptional_9 (fun r I' hp => ?_)
  rw [hp.1, hp.2]
  show zW G F 1 6 I [(0, .ref (F.1 0)), (1, .int (zI slot))] [.int (zI (if I (15 + 6) (I 16 slot) < I 15 1 then 1 else 0))] 12
  exact hE _ _ _ _ dX3_isOptional_12 (by first | decide | omega) (k2 p6)

theorem c_X3_isOptional {F : zFr} {I : zStore}  {slot : Int}  (hL : zLay F) (hr : zRg I) (hs : -2147483648 ≤ slot ∧ slot < 2147483648) (hf : 0 ≤ I 15 0 ∧ I 15 0 ≤ 40) (ho : ∀ _u : Unit, 0 ≤ slot → slot < I 15 0 → 0 ≤ I 16 slot ∧ I 16 slot < 40) : ∀ (l : Launch) (D : va_G) (cs : Nat → ClassId), l.stackTraces = false → zMx l yX3_isOptional cX3_isOptional 2 (some .boolean) rm_X3_isOptional D cs F I [.ref (F.1 0), .int (zI slot)] (fun r I' => (0 ≤ slot ∧ slot < I 15 0) ∧ r = some (.int (zI (if I (15 + 6) (I 16 slot) < I 15 1 then 1 else 0))) ∧ I' = I) (fun E I' => I' = I ∧ ((E = "java/lang/IndexOutOfBoundsException" ∧ ¬ (0 ≤ slot ∧ slot < I 15 0)))) :=
  fun l D cs hst => zMx.ofZ hst (by decide +kernel) rfl (Nat.le_of_ble_eq_true rfl) fun G hG hR hE hT => s_X3_isOptional hG hR hE hT hL hr hs hf ho
    (by intros; refine ⟨rfl, ?_⟩; first | exact ⟨rfl, by omega⟩ | exact Or.inl ⟨rfl, by omega⟩ | exact Or.inr ⟨rfl, by omega⟩)
    (by intros; refine ⟨by omega, ?_, ?_⟩ <;> (repeat' split) <;> first | rfl | (exfalso; omega) | (simp only [zup_self]; done))
abbrev rm_X3_sizeOf : Room := { frames := 7, cells := 1, slots := 6, locals := 103 }
abbrev rm_X3_textByte : Room := { frames := 7, cells := 2, slots := 12, locals := 103 }
abbrev rm_X3_needGrouping : Room := { frames := 6, cells := 1, slots := 6, locals := 82 }
abbrev rm_X3_groupOf : Room := { frames := 7, cells := 2, slots := 12, locals := 103 }
theorem zgf {F : zFr} {g : Nat} (hg : g < 12) : ([some 26, some 33, some 40, some 47, some 54, some 61, some 68, some 75, some 82, some 89, some 96, some 103] : List (Option Nat))[g]? = some (some (26 + 7 * g)) := by
  have : ∀ g, g < 12 → ([some 26, some 33, some 40, some 47, some 54, some 61, some 68, some 75, some 82, some 89, some 96, some 103] : List (Option Nat))[g]? = some (some (26 + 7 * g)) := by decide
  exact this g hg
abbrev rm_X3_textSize : Room := { frames := 0, cells := 0, slots := 0, locals := 0 }
