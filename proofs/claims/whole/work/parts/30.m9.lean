theorem zs_174_265 : zSite "java/lang/IndexOutOfBoundsException" "there is no such line" ["java/lang/RuntimeException", "java/lang/Exception"] 174 265 178 := ⟨by decide +kernel, by decide +kernel, kw426, kw11, by decide +kernel, (show ∀ w ∈ vx_atS "LineLearner" 178 "java/lang/IndexOutOfBoundsException" ["java/lang/RuntimeException", "java/lang/Exception"], w ∈ lw_tbl ∧ zst w = true by decide +kernel), by decide +kernel⟩
theorem zs_174_267 : zSite "java/lang/IndexOutOfBoundsException" "there is no such token" ["java/lang/RuntimeException", "java/lang/Exception"] 174 267 178 := ⟨by decide +kernel, by decide +kernel, kw426, kw11, by decide +kernel, (show ∀ w ∈ vx_atS "LineLearner" 178 "java/lang/IndexOutOfBoundsException" ["java/lang/RuntimeException", "java/lang/Exception"], w ∈ lw_tbl ∧ zst w = true by decide +kernel), by decide +kernel⟩
abbrev rm_X3_needLine : Room := { frames := 6, cells := 1, slots := 6, locals := 82 }
set_option maxRecDepth 100000 in
set_option maxHeartbeats 4000000 in
theorem s_X3_needLine {G : zCx} {F : zFr} {I : zStore} {post : Option Value → zStore → Prop} {px : String → zStore → Prop}{line : Int} (hG : zOK G "LineLearner" cX3_needLine 2) (hR : zRoom G rm_X3_needLine) (hE : zRetV G F cX3_needLine 1 6 post) (hT : zThr G F cX3_needLine 1 6 px) (hL : zLay F) (hr : zRg I) (hl : -2147483648 ≤ line ∧ line < 2147483648)
    (k1 : (line < 0) → px "java/lang/IndexOutOfBoundsException" I)
    (k2 : (0 ≤ line) → (line < (I 2 0)) → post (none) I)
    (k3 : (0 ≤ line) → ((I 2 0) ≤ line) → px "java/lang/IndexOutOfBoundsException" I) :
    zW G F 0 0 I [(0, .ref (F.1 0)), (1, .int (zI line))] [] 0 := by
  refine z_iload_n 1 hG dX3_needLine_0 rfl rfl ?_
  refine z_if_lt (tgt := 15) hG dX3_needLine_1 (by decide) (by omega) (fun c1 => ?_) (fun c1 => ?_)
  · skip
    exact hT.2.1 _ _ _ _ _ _ _ _ _ _ _ _ _ zs_174_265 dX3_needLine_15 dX3_needLine_18 dX3_needLine_19 dX3_needLine_22 dX3_needLine_25 hR (by decide) (Nat.le_of_ble_eq_true rfl) (by decide) (by decide) (by decide) (by decide) (k1 c1)
  · skip
    refine z_iload_n 1 hG dX3_needLine_4 rfl rfl ?_
    refine z_aload_n 0 hG dX3_needLine_5 rfl rfl ?_
    refine z_getR (t := 2) hG zcl3 (zlt hL (by decide)) (zl0 hL) 2 (by decide) rfl kw161 dX3_needLine_6 ?_
    refine z_getIN (v := I 2 0) hG zcl2 (zlt hL (by decide)) (zl2 hL) 0 (by decide) rfl rfl rfl kw29 dX3_needLine_9 ?_
    refine z_icmp_lt (tgt := 26) hG dX3_needLine_12 (by decide) (by omega) (hr _ _) (fun c12 => ?_) (fun c12 => ?_)
    · skip
      refine z_widen (k := 1) (n := 6) (by decide) (by decide) hR (by decide) (by decide) ?_
      exact hE _ _ _ dX3_needLine_26 (k2 c1 c12)
    · skip
      exact hT.2.1 _ _ _ _ _ _ _ _ _ _ _ _ _ zs_174_265 dX3_needLine_15 dX3_needLine_18 dX3_needLine_19 dX3_needLine_22 dX3_needLine_25 hR (by decide) (Nat.le_of_ble_eq_true rfl) (by decide) (by decide) (by decide) (by decide) (k3 c1 c12)

theorem c_X3_needLine {F : zFr} {I : zStore}  {line : Int}  (hL : zLay F) (hr : zRg I) (hl : -2147483648 ≤ line ∧ line < 2147483648) : ∀ (l : Launch) (D : va_G) (cs : Nat → ClassId), l.stackTraces = false → zMx l yX3_needLine cX3_needLine 2 none rm_X3_needLine D cs F I [.ref (F.1 0), .int (zI line)] (fun r I' => (0 ≤ line ∧ line < I 2 0) ∧ r = none ∧ I' = I) (fun E I' => I' = I ∧ ((E = "java/lang/IndexOutOfBoundsException" ∧ ¬ (0 ≤ line ∧ line < I 2 0)))) :=
  fun l D cs hst => zMx.ofV hst (by decide +kernel) rfl (Nat.le_of_ble_eq_true rfl) fun G hG hR hE hT => s_X3_needLine hG hR hE hT hL hr hl
    (by intros; refine ⟨rfl, ?_⟩; first | exact ⟨rfl, by omega⟩ | exact Or.inl ⟨rfl, by omega⟩ | exact Or.inr ⟨rfl, by omega⟩)
    (by intros; refine ⟨by omega, ?_, ?_⟩ <;> (repeat' split) <;> first | rfl | (exfalso; omega) | (simp only [zup_self]; done))
    (by intros; refine ⟨rfl, ?_⟩; first | exact ⟨rfl, by omega⟩ | exact Or.inl ⟨rfl, by omega⟩ | exact Or.inr ⟨rfl, by omega⟩)
abbrev rm_X3_lineCount : Room := { frames := 0, cells := 0, slots := 0, locals := 0 }
set_option maxRecDepth 100000 in
set_option maxHeartbeats 4000000 in
theorem s_X3_lineCount {G : zCx} {F : zFr} {I : zStore} {post : Option Value → zStore → Prop} (hG : zOK G "LineLearner" cX3_lineCount 1) (hR : zRoom G rm_X3_lineCount) (hE : zRetI G F cX3_lineCount 0 0 post) (hL : zLay F) (hr : zRg I)
    (k1 : post (some (.int (zI (I 2 0)))) I) :
    zW G F 0 0 I [(0, .ref (F.1 0))] [] 0 := by
  refine z_aload_n 0 hG dX3_lineCount_0 rfl rfl ?_
  refine z_getR (t := 2) hG zcl3 (zlt hL (by decide)) (zl0 hL) 2 (by decide) rfl kw161 dX3_lineCount_1 ?_
  refine z_getIN (v := I 2 0) hG zcl2 (zlt hL (by decide)) (zl2 hL) 0 (by decide) rfl rfl rfl kw29 dX3_lineCount_4 ?_
  exact hE _ _ _ _ dX3_lineCount_7 (k1)

theorem c_X3_lineCount {F : zFr} {I : zStore}    (hL : zLay F) (hr : zRg I) : ∀ (l : Launch) (D : va_G) (cs : Nat → ClassId), l.stackTraces = false → zMt l yX3_lineCount cX3_lineCount 1 (some .int) rm_X3_lineCount D cs F I [.ref (F.1 0)] (fun r I' => r = some (.int (zI (I 2 0))) ∧ I' = I) :=
  fun l D cs hst => zMt.ofI hst (by decide +kernel) (Nat.le_of_ble_eq_true rfl) fun G hG hR hE => s_X3_lineCount hG hR hE hL hr
    (by intros; refine ⟨?_, ?_⟩ <;> (repeat' split) <;> first | rfl | (exfalso; omega) | (simp only [zup_self]; done) | (simp only [zpc, zsk]; (repeat' split) <;> first | rfl | (exfalso; omega)))
abbrev rm_X3_tokenCount : Room := { frames := 7, cells := 1, slots := 6, locals := 103 }
set_option maxRecDepth 100000 in
set_option maxHeartbeats 4000000 in
theorem s_X3_tokenCount {G : zCx} {F : zFr} {I : zStore} {post : Option Value → zStore → Prop} {px : String → zStore → Prop}{line : Int} (hG : zOK G "LineLearner" cX3_tokenCount 2) (hR : zRoom G rm_X3_tokenCount) (hE : zRetI G F cX3_tokenCount 1 6 post) (hT : zThr G F cX3_tokenCount 1 6 px) (hL : zLay F) (hr : zRg I) (hl : -2147483648 ≤ line ∧ line < 2147483648) (hn : 0 ≤ I 2 0 ∧ I 2 0 ≤ 12)
    (k1 : (¬ (0 ≤ line ∧ line < I 2 0)) → px "java/lang/IndexOutOfBoundsException" I)
    (k2 : (0 ≤ line ∧ line < I 2 0) → post (some (.int (zI (I 4 line)))) I) :
    zW G F 0 0 I [(0, .ref (F.1 0)), (1, .int (zI line))] [] 0 := by
  refine z_aload_n 0 hG dX3_tokenCount_0 rfl rfl ?_
  refine z_iload_n 1 hG dX3_tokenCount_1 rfl rfl ?_
  refine z_callVX [.int (zI line)] hG hR (c_X3_needLine hL hr (by omega)) hd_X3_needLine kw422 kw424 kp12 rfl (zlt hL (by decide)) (zl0 hL) (by decide) (by decide) (by decide) (by decide) rfl rfl (Nat.le_of_ble_eq_true rfl) dX3_tokenCount_2 (fun E I' hp => ?_) (fun r I' hp => ?_)
  · obtain ⟨hI, hx⟩ := hp
    rw [hI]
    obtain ⟨hE9, h⟩ := hx
    subst hE9
    exact hT.2.2 _ _ _ _ _ _ (by decide) (by decide) (k1 h)
  have p2 : 0 ≤ line ∧ line < I 2 0 := hp.1
  rw [hp.2.1, hp.2.2]
  show zW G F 1 6 I [(0, .ref (F.1 0)), (1, .int (zI line))] [] 5
  refine z_aload_n 0 hG dX3_tokenCount_5 rfl rfl ?_
  refine z_getR (t := 2) hG zcl3 (zlt hL (by decide)) (zl0 hL) 2 (by decide) rfl kw161 dX3_tokenCount_6 ?_
  refine z_getRN (t := 4) hG zcl2 (zlt hL (by decide)) (zl2 hL) 2 (by decide) rfl kw34 dX3_tokenCount_9 ?_
  refine z_iload_n 1 hG dX3_tokenCount_12 rfl rfl ?_
  refine z_iald (v := I 4 line) hG (zlt hL (by decide)) (zl4 hL) (by decide) (by omega) rfl dX3_tokenCount_13 ?_
  exact hE _ _ _ _ dX3_tokenCount_14 (k2 p2)

theorem c_X3_tokenCount {F : zFr} {I : zStore}  {line : Int}  (hL : zLay F) (hr : zRg I) (hl : -2147483648 ≤ line ∧ line < 2147483648) (hn : 0 ≤ I 2 0 ∧ I 2 0 ≤ 12) : ∀ (l : Launch) (D : va_G) (cs : Nat → ClassId), l.stackTraces = false → zMx l yX3_tokenCount cX3_tokenCount 2 (some .int) rm_X3_tokenCount D cs F I [.ref (F.1 0), .int (zI line)] (fun r I' => (0 ≤ line ∧ line < I 2 0) ∧ r = some (.int (zI (I 4 line))) ∧ I' = I) (fun E I' => I' = I ∧ ((E = "java/lang/IndexOutOfBoundsException" ∧ ¬ (0 ≤ line ∧ line < I 2 0)))) :=
  fun l D cs hst => zMx.ofI hst (by decide +kernel) rfl (Nat.le_of_ble_eq_true rfl) fun G hG hR hE hT => s_X3_tokenCount hG hR hE hT hL hr hl hn
    (by intros; refine ⟨rfl, ?_⟩; first | exact ⟨rfl, by omega⟩ | exact Or.inl ⟨rfl, by omega⟩ | exact Or.inr ⟨rfl, by omega⟩)
    (by intros; refine ⟨by omega, ?_, ?_⟩ <;> (repeat' split) <;> first | rfl | (exfalso; omega) | (simp only [zup_self]; done))
abbrev rm_X3_needToken : Room := { frames := 7, cells := 2, slots := 12, locals := 103 }
set_option maxRecDepth 100000 in
set_option maxHeartbeats 4000000 in
theorem s_X3_needToken {G : zCx} {F : zFr} {I : zStore} {post : Option Value → zStore → Prop} {px : String → zStore → Prop}{line : Int} {token : Int} (hG : zOK G "LineLearner" cX3_needToken 3) (hR : zRoom G rm_X3_needToken) (hE : zRetV G F cX3_needToken 2 12 post) (hT : zThr G F cX3_needToken 2 12 px) (hL : zLay F) (hr : zRg I) (hl : -2147483648 ≤ line ∧ line < 2147483648) (ht : -2147483648 ≤ token ∧ token < 2147483648) (hn : 0 ≤ I 2 0 ∧ I 2 0 ≤ 12)
    (k1 : (¬ (0 ≤ line ∧ line < I 2 0)) → px "java/lang/IndexOutOfBoundsException" I)
    (k2 : (0 ≤ line ∧ line < I 2 0) → (token < 0) → px "java/lang/IndexOutOfBoundsException" I)
    (k3 : (0 ≤ line ∧ line < I 2 0) → (0 ≤ token) → (token < (I 4 line)) → post (none) I)
    (k4 : (0 ≤ line ∧ line < I 2 0) → (0 ≤ token) → ((I 4 line) ≤ token) → px "java/lang/IndexOutOfBoundsException" I) :
    zW G F 0 0 I [(0, .ref (F.1 0)), (1, .int (zI line)), (2, .int (zI token))] [] 0 := by
  refine z_aload_n 0 hG dX3_needToken_0 rfl rfl ?_
  refine z_iload_n 1 hG dX3_needToken_1 rfl rfl ?_
  refine z_callVX [.int (zI line)] hG hR (c_X3_needLine hL hr (by omega)) hd_X3_needLine kw422 kw424 kp12 rfl (zlt hL (by decide)) (zl0 hL) (by decide) (by decide) (by decide) (by decide) rfl rfl (Nat.le_of_ble_eq_true rfl) dX3_needToken_2 (fun E I' hp => ?_) (fun r I' hp => ?_)
  · obtain ⟨hI, hx⟩ := hp
    rw [hI]
    obtain ⟨hE9, h⟩ := hx
    subst hE9
    exact hT.2.2 _ _ _ _ _ _ (by decide) (by decide) (k1 h)
  have p2 : 0 ≤ line ∧ line < I 2 0 := hp.1
  rw [hp.2.1, hp.2.2]
  show zW G F 1 6 I [(0, .ref (F.1 0)), (1, .int (zI line)), (2, .int (zI token))] [] 5
  refine z_iload_n 2 hG dX3_needToken_5 rfl rfl ?_
  refine z_if_lt (tgt := 22) hG dX3_needToken_6 (by decide) (by omega) (fun c6 => ?_) (fun c6 => ?_)
  · skip
    exact hT.2.1 _ _ _ _ _ _ _ _ _ _ _ _ _ zs_174_267 dX3_needToken_22 dX3_needToken_25 dX3_needToken_26 dX3_needToken_29 dX3_needToken_32 hR (by decide) (Nat.le_of_ble_eq_true rfl) (by decide) (by decide) (by decide) (by decide) (k2 p2 c6)
  · skip
    refine z_iload_n 2 hG dX3_needToken_9 rfl rfl ?_
    refine z_aload_n 0 hG dX3_needToken_10 rfl rfl ?_
    refine z_getR (t := 2) hG zcl3 (zlt hL (by decide)) (zl0 hL) 2 (by decide) rfl kw161 dX3_needToken_11 ?_
    refine z_getRN (t := 4) hG zcl2 (zlt hL (by decide)) (zl2 hL) 2 (by decide) rfl kw34 dX3_needToken_14 ?_
    refine z_iload_n 1 hG dX3_needToken_17 rfl rfl ?_
    refine z_iald (v := I 4 line) hG (zlt hL (by decide)) (zl4 hL) (by decide) (by omega) rfl dX3_needToken_18 ?_
    refine z_icmp_lt (tgt := 33) hG dX3_needToken_19 (by decide) (by omega) (hr _ _) (fun c19 => ?_) (fun c19 => ?_)
    · skip
      refine z_widen (k := 2) (n := 12) (by decide) (by decide) hR (by decide) (by decide) ?_
      exact hE _ _ _ dX3_needToken_33 (k3 p2 c6 c19)
    · skip
      exact hT.2.1 _ _ _ _ _ _ _ _ _ _ _ _ _ zs_174_267 dX3_needToken_22 dX3_needToken_25 dX3_needToken_26 dX3_needToken_29 dX3_needToken_32 hR (by decide) (Nat.le_of_ble_eq_true rfl) (by decide) (by decide) (by decide) (by decide) (k4 p2 c6 c19)

theorem c_X3_needToken {F : zFr} {I : zStore}  {line : Int} {token : Int}  (hL : zLay F) (hr : zRg I) (hl : -2147483648 ≤ line ∧ line < 2147483648) (ht : -2147483648 ≤ token ∧ token < 2147483648) (hn : 0 ≤ I 2 0 ∧ I 2 0 ≤ 12) : ∀ (l : Launch) (D : va_G) (cs : Nat → ClassId), l.stackTraces = false → zMx l yX3_needToken cX3_needToken 3 none rm_X3_needToken D cs F I [.ref (F.1 0), .int (zI line), .int (zI token)] (fun r I' => ((0 ≤ line ∧ line < I 2 0) ∧ 0 ≤ token ∧ token < I 4 line) ∧ r = none ∧ I' = I) (fun E I' => I' = I ∧ ((E = "java/lang/IndexOutOfBoundsException" ∧ ¬ ((0 ≤ line ∧ line < I 2 0) ∧ 0 ≤ token ∧ token < I 4 line)))) :=
  fun l D cs hst => zMx.ofV hst (by decide +kernel) rfl (Nat.le_of_ble_eq_true rfl) fun G hG hR hE hT => s_X3_needToken hG hR hE hT hL hr hl ht hn
    (by intros; refine ⟨rfl, ?_⟩; first | exact ⟨rfl, by omega⟩ | exact Or.inl ⟨rfl, by omega⟩ | exact Or.inr ⟨rfl, by omega⟩)
    (by intros; refine ⟨rfl, ?_⟩; first | exact ⟨rfl, by omega⟩ | exact Or.inl ⟨rfl, by omega⟩ | exact Or.inr ⟨rfl, by omega⟩)
    (by intros; refine ⟨by omega, ?_, ?_⟩ <;> (repeat' split) <;> first | rfl | (exfalso; omega) | (simp only [zup_self]; done))
    (by intros; refine ⟨rfl, ?_⟩; first | exact ⟨rfl, by omega⟩ | exact Or.inl ⟨rfl, by omega⟩ | exact Or.inr ⟨rfl, by omega⟩)
