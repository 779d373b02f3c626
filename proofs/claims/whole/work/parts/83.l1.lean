/-! the wrappers: an answer goes into the row, 0 comes back; an exception is 1 or 2 -/
abbrev rm_L_feed : Room := { frames := 7, cells := 1, slots := 6, locals := 107 }
theorem hd_L_feed : zHeadH yL_feed cL_feed 5 3 (some .int) [(0, 9, 12, 13), (0, 9, 16, 15)] := ⟨kw285, kw0, by decide +kernel, by decide +kernel, by decide +kernel⟩
set_option maxRecDepth 100000 in
set_option maxHeartbeats 4000000 in
theorem c_L_feed {F : zFr} {I : zStore} {p0 : Int64} {post : Option Value → zStore → Prop} {px : String → zStore → Prop} {P : Int → zStore → Prop} (hL : zLayL F)
    (hM : ∀ (l : Launch) (D : va_G) (cs : Nat → ClassId), l.stackTraces = false → zMx l yX3_feed cX3_feed 6 (some .int) rm_X3_feed D cs F I [.ref (F.1 0), .long p0] post px)
    (hp : ∀ r I', post r I' → ∃ v : Int, r = some (.int (zI v)) ∧ (-2147483648 ≤ v ∧ v < 2147483648) ∧ P 0 (zup I' 129 0 v)) (hx : ∀ E I', px E I' → (E = "java/lang/IllegalArgumentException" ∧ P 1 I') ∨ (E = "java/lang/IllegalStateException" ∧ P 2 I')) :
    ∀ (l : Launch) (D : va_G) (cs : Nat → ClassId), l.stackTraces = false → zMh l yL_feed cL_feed 5 (some .int) [(0, 9, 12, 13), (0, 9, 16, 15)] rm_L_feed D cs F I [.ref (F.1 0), .long p0, .ref (F.1 129)] (fun r I' => ∃ k : Int, r = some (.int (zI k)) ∧ (0 ≤ k ∧ k ≤ 2) ∧ P k I') := by
  intro l D cs hst
  refine zMh.ofI hst (by decide +kernel) (Nat.le_of_ble_eq_true rfl) fun G hG hT hR hE => ?_
  show zW G F 0 0 I [(0, .ref (F.1 0)), (1, .long p0), (3, .ref (F.1 129))] [] 0
  refine z_aload_n 2 hG dL_feed_0 rfl rfl ?_
  refine z_iconst 0 hG dL_feed_1 ?_
  refine z_aload_n 0 hG dL_feed_2 rfl rfl ?_
  refine z_lload_n 1 hG dL_feed_3 rfl rfl ?_
  refine z_callVX [.long p0] hG hR hM hd_X3_feed kw288 kw289 kw290 rfl (zltL hL (by decide)) (zl0 hL.m.c) (by decide) (by decide) (by decide) (by decide) rfl rfl (Nat.le_of_ble_eq_true rfl) dL_feed_4 (fun E I' hq => ?_) (fun r I' hq => ?_)
  · rcases hx E I' hq with ⟨hE9, h⟩ | ⟨hE9, h⟩
    · subst hE9
      refine z_catch1 hG hT rfl (by decide) (by decide) kw286 kca1 (fun q => ?_)
      refine z_astore hG dL_feed_12 (by decide) rfl ?_
      refine z_iconst 1 hG dL_feed_14 ?_
      exact hE _ _ _ _ dL_feed_15 ⟨1, rfl, by decide, h⟩
    · subst hE9
      refine z_catch2 hG hT rfl (by decide) (by decide) (by decide) kw286 (by decide) kw287 kca2 (fun q => ?_)
      refine z_astore hG dL_feed_16 (by decide) rfl ?_
      refine z_iconst 2 hG dL_feed_18 ?_
      exact hE _ _ _ _ dL_feed_19 ⟨2, rfl, by decide, h⟩
  · obtain ⟨v, rfl, hv, h⟩ := hp r I' hq
    show zW G F 1 6 I' [(0, .ref (F.1 0)), (1, .long p0), (3, .ref (F.1 129))] [.int (zI v), .int (zI 0), .ref (F.1 129)] 7
    refine z_i2l hG dL_feed_7 hv ?_
    refine z_last hG (zltL hL (by decide)) (zl129 hL) (by decide) (by decide) dL_feed_8 ?_
    refine z_goto (tgt := 20) hG dL_feed_9 (by decide) ?_
    refine z_iconst 0 hG dL_feed_20 ?_
    exact hE _ _ _ _ dL_feed_21 ⟨0, rfl, by decide, h⟩
abbrev rm_L_store : Room := { frames := 7, cells := 1, slots := 6, locals := 115 }
theorem hd_L_store : zHeadH yL_store cL_store 3 2 (some .int) [(0, 8, 11, 15)] := ⟨kw383, kw0, by decide +kernel, by decide +kernel, by decide +kernel⟩
set_option maxRecDepth 100000 in
set_option maxHeartbeats 4000000 in
theorem c_L_store {F : zFr} {I : zStore}  {post : Option Value → zStore → Prop} {px : String → zStore → Prop} {P : Int → zStore → Prop} (hL : zLayL F)
    (hM : ∀ (l : Launch) (D : va_G) (cs : Nat → ClassId), l.stackTraces = false → zMx l yX3_store cX3_store 2 (some .int) rm_X3_store D cs F I [.ref (F.1 0)] post px)
    (hp : ∀ r I', post r I' → ∃ v : Int, r = some (.int (zI v)) ∧ (-2147483648 ≤ v ∧ v < 2147483648) ∧ P 0 (zup I' 129 0 v)) (hx : ∀ E I', px E I' → (E = "java/lang/IllegalStateException" ∧ P 1 I')) :
    ∀ (l : Launch) (D : va_G) (cs : Nat → ClassId), l.stackTraces = false → zMh l yL_store cL_store 3 (some .int) [(0, 8, 11, 15)] rm_L_store D cs F I [.ref (F.1 0), .ref (F.1 129)] (fun r I' => ∃ k : Int, r = some (.int (zI k)) ∧ (0 ≤ k ∧ k ≤ 2) ∧ P k I') := by
  intro l D cs hst
  refine zMh.ofI hst (by decide +kernel) (Nat.le_of_ble_eq_true rfl) fun G hG hT hR hE => ?_
  show zW G F 0 0 I [(0, .ref (F.1 0)), (1, .ref (F.1 129))] [] 0
  refine z_aload_n 1 hG dL_store_0 rfl rfl ?_
  refine z_iconst 0 hG dL_store_1 ?_
  refine z_aload_n 0 hG dL_store_2 rfl rfl ?_
  refine z_callVX [] hG hR hM hd_X3_store kw384 kw385 kw386 rfl (zltL hL (by decide)) (zl0 hL.m.c) (by decide) (by decide) (by decide) (by decide) rfl rfl (Nat.le_of_ble_eq_true rfl) dL_store_3 (fun E I' hq => ?_) (fun r I' hq => ?_)
  · obtain ⟨hE9, h⟩ := hx E I' hq
    subst hE9
    refine z_catch1 hG hT rfl (by decide) (by decide) kw287 kca2 (fun q => ?_)
    refine z_astore_n hG dL_store_11 rfl (by decide) rfl ?_
    refine z_iconst 1 hG dL_store_12 ?_
    exact hE _ _ _ _ dL_store_13 ⟨1, rfl, by decide, h⟩
  · obtain ⟨v, rfl, hv, h⟩ := hp r I' hq
    show zW G F 1 6 I' [(0, .ref (F.1 0)), (1, .ref (F.1 129))] [.int (zI v), .int (zI 0), .ref (F.1 129)] 6
    refine z_i2l hG dL_store_6 hv ?_
    refine z_last hG (zltL hL (by decide)) (zl129 hL) (by decide) (by decide) dL_store_7 ?_
    refine z_goto (tgt := 14) hG dL_store_8 (by decide) ?_
    refine z_iconst 0 hG dL_store_14 ?_
    exact hE _ _ _ _ dL_store_15 ⟨0, rfl, by decide, h⟩
abbrev rm_L_tokenCount : Room := { frames := 8, cells := 1, slots := 6, locals := 124 }
theorem hd_L_tokenCount : zHeadH yL_tokenCount cL_tokenCount 4 3 (some .int) [(0, 9, 12, 25)] := ⟨kw416, kw0, by decide +kernel, by decide +kernel, by decide +kernel⟩
set_option maxRecDepth 100000 in
set_option maxHeartbeats 4000000 in
theorem c_L_tokenCount {F : zFr} {I : zStore} {p0 : Int} {post : Option Value → zStore → Prop} {px : String → zStore → Prop} {P : Int → zStore → Prop} (hL : zLayL F)
    (hM : ∀ (l : Launch) (D : va_G) (cs : Nat → ClassId), l.stackTraces = false → zMx l yX3_tokenCount cX3_tokenCount 2 (some .int) rm_X3_tokenCount D cs F I [.ref (F.1 0), .int (zI p0)] post px)
    (hp : ∀ r I', post r I' → ∃ v : Int, r = some (.int (zI v)) ∧ (-2147483648 ≤ v ∧ v < 2147483648) ∧ P 0 (zup I' 129 0 v)) (hx : ∀ E I', px E I' → (E = "java/lang/IndexOutOfBoundsException" ∧ P 1 I')) :
    ∀ (l : Launch) (D : va_G) (cs : Nat → ClassId), l.stackTraces = false → zMh l yL_tokenCount cL_tokenCount 4 (some .int) [(0, 9, 12, 25)] rm_L_tokenCount D cs F I [.ref (F.1 0), .int (zI p0), .ref (F.1 129)] (fun r I' => ∃ k : Int, r = some (.int (zI k)) ∧ (0 ≤ k ∧ k ≤ 2) ∧ P k I') := by
  intro l D cs hst
  refine zMh.ofI hst (by decide +kernel) (Nat.le_of_ble_eq_true rfl) fun G hG hT hR hE => ?_
  show zW G F 0 0 I [(0, .ref (F.1 0)), (1, .int (zI p0)), (2, .ref (F.1 129))] [] 0
  refine z_aload_n 2 hG dL_tokenCount_0 rfl rfl ?_
  refine z_iconst 0 hG dL_tokenCount_1 ?_
  refine z_aload_n 0 hG dL_tokenCount_2 rfl rfl ?_
  refine z_iload_n 1 hG dL_tokenCount_3 rfl rfl ?_
  refine z_callVX [.int (zI p0)] hG hR hM hd_X3_tokenCount kw418 kw419 kw420 rfl (zltL hL (by decide)) (zl0 hL.m.c) (by decide) (by decide) (by decide) (by decide) rfl rfl (Nat.le_of_ble_eq_true rfl) dL_tokenCount_4 (fun E I' hq => ?_) (fun r I' hq => ?_)
  · obtain ⟨hE9, h⟩ := hx E I' hq
    subst hE9
    refine z_catch1 hG hT rfl (by decide) (by decide) kw417 kca3 (fun q => ?_)
    refine z_astore_n hG dL_tokenCount_12 rfl (by decide) rfl ?_
    refine z_iconst 1 hG dL_tokenCount_13 ?_
    exact hE _ _ _ _ dL_tokenCount_14 ⟨1, rfl, by decide, h⟩
  · obtain ⟨v, rfl, hv, h⟩ := hp r I' hq
    show zW G F 1 6 I' [(0, .ref (F.1 0)), (1, .int (zI p0)), (2, .ref (F.1 129))] [.int (zI v), .int (zI 0), .ref (F.1 129)] 7
    refine z_i2l hG dL_tokenCount_7 hv ?_
    refine z_last hG (zltL hL (by decide)) (zl129 hL) (by decide) (by decide) dL_tokenCount_8 ?_
    refine z_goto (tgt := 15) hG dL_tokenCount_9 (by decide) ?_
    refine z_iconst 0 hG dL_tokenCount_15 ?_
    exact hE _ _ _ _ dL_tokenCount_16 ⟨0, rfl, by decide, h⟩
abbrev rm_L_tokenKind : Room := { frames := 9, cells := 2, slots := 12, locals := 147 }
theorem hd_L_tokenKind : zHeadH yL_tokenKind cL_tokenKind 5 4 (some .int) [(0, 10, 13, 25)] := ⟨kw444, kw0, by decide +kernel, by decide +kernel, by decide +kernel⟩
set_option maxRecDepth 100000 in
set_option maxHeartbeats 4000000 in
theorem c_L_tokenKind {F : zFr} {I : zStore} {p0 : Int} {p1 : Int} {post : Option Value → zStore → Prop} {px : String → zStore → Prop} {P : Int → zStore → Prop} (hL : zLayL F)
    (hM : ∀ (l : Launch) (D : va_G) (cs : Nat → ClassId), l.stackTraces = false → zMx l yX3_tokenKind cX3_tokenKind 3 (some .int) rm_X3_tokenKind D cs F I [.ref (F.1 0), .int (zI p0), .int (zI p1)] post px)
    (hp : ∀ r I', post r I' → ∃ v : Int, r = some (.int (zI v)) ∧ (-2147483648 ≤ v ∧ v < 2147483648) ∧ P 0 (zup I' 129 0 v)) (hx : ∀ E I', px E I' → (E = "java/lang/IndexOutOfBoundsException" ∧ P 1 I')) :
    ∀ (l : Launch) (D : va_G) (cs : Nat → ClassId), l.stackTraces = false → zMh l yL_tokenKind cL_tokenKind 5 (some .int) [(0, 10, 13, 25)] rm_L_tokenKind D cs F I [.ref (F.1 0), .int (zI p0), .int (zI p1), .ref (F.1 129)] (fun r I' => ∃ k : Int, r = some (.int (zI k)) ∧ (0 ≤ k ∧ k ≤ 2) ∧ P k I') := by
  intro l D cs hst
  refine zMh.ofI hst (by decide +kernel) (Nat.le_of_ble_eq_true rfl) fun G hG hT hR hE => ?_
  show zW G F 0 0 I [(0, .ref (F.1 0)), (1, .int (zI p0)), (2, .int (zI p1)), (3, .ref (F.1 129))] [] 0
  refine z_aload_n 3 hG dL_tokenKind_0 rfl rfl ?_
  refine z_iconst 0 hG dL_tokenKind_1 ?_
  refine z_aload_n 0 hG dL_tokenKind_2 rfl rfl ?_
  refine z_iload_n 1 hG dL_tokenKind_3 rfl rfl ?_
  refine z_iload_n 2 hG dL_tokenKind_4 rfl rfl ?_
  refine z_callVX [.int (zI p0), .int (zI p1)] hG hR hM hd_X3_tokenKind kw445 kw446 kw447 rfl (zltL hL (by decide)) (zl0 hL.m.c) (by decide) (by decide) (by decide) (by decide) rfl rfl (Nat.le_of_ble_eq_true rfl) dL_tokenKind_5 (fun E I' hq => ?_) (fun r I' hq => ?_)
  · obtain ⟨hE9, h⟩ := hx E I' hq
    subst hE9
    refine z_catch1 hG hT rfl (by decide) (by decide) kw417 kca3 (fun q => ?_)
    refine z_astore hG dL_tokenKind_13 (by decide) rfl ?_
    refine z_iconst 1 hG dL_tokenKind_15 ?_
    exact hE _ _ _ _ dL_tokenKind_16 ⟨1, rfl, by decide, h⟩
  · obtain ⟨v, rfl, hv, h⟩ := hp r I' hq
    show zW G F 2 12 I' [(0, .ref (F.1 0)), (1, .int (zI p0)), (2, .int (zI p1)), (3, .ref (F.1 129))] [.int (zI v), .int (zI 0), .ref (F.1 129)] 8
    refine z_i2l hG dL_tokenKind_8 hv ?_
    refine z_last hG (zltL hL (by decide)) (zl129 hL) (by decide) (by decide) dL_tokenKind_9 ?_
    refine z_goto (tgt := 17) hG dL_tokenKind_10 (by decide) ?_
    refine z_iconst 0 hG dL_tokenKind_17 ?_
    exact hE _ _ _ _ dL_tokenKind_18 ⟨0, rfl, by decide, h⟩
abbrev rm_L_tokenStart : Room := { frames := 9, cells := 2, slots := 12, locals := 147 }
theorem hd_L_tokenStart : zHeadH yL_tokenStart cL_tokenStart 5 4 (some .int) [(0, 10, 13, 25)] := ⟨kw456, kw0, by decide +kernel, by decide +kernel, by decide +kernel⟩
set_option maxRecDepth 100000 in
set_option maxHeartbeats 4000000 in
theorem c_L_tokenStart {F : zFr} {I : zStore} {p0 : Int} {p1 : Int} {post : Option Value → zStore → Prop} {px : String → zStore → Prop} {P : Int → zStore → Prop} (hL : zLayL F)
    (hM : ∀ (l : Launch) (D : va_G) (cs : Nat → ClassId), l.stackTraces = false → zMx l yX3_tokenStart cX3_tokenStart 3 (some .int) rm_X3_tokenStart D cs F I [.ref (F.1 0), .int (zI p0), .int (zI p1)] post px)
    (hp : ∀ r I', post r I' → ∃ v : Int, r = some (.int (zI v)) ∧ (-2147483648 ≤ v ∧ v < 2147483648) ∧ P 0 (zup I' 129 0 v)) (hx : ∀ E I', px E I' → (E = "java/lang/IndexOutOfBoundsException" ∧ P 1 I')) :
    ∀ (l : Launch) (D : va_G) (cs : Nat → ClassId), l.stackTraces = false → zMh l yL_tokenStart cL_tokenStart 5 (some .int) [(0, 10, 13, 25)] rm_L_tokenStart D cs F I [.ref (F.1 0), .int (zI p0), .int (zI p1), .ref (F.1 129)] (fun r I' => ∃ k : Int, r = some (.int (zI k)) ∧ (0 ≤ k ∧ k ≤ 2) ∧ P k I') := by
  intro l D cs hst
  refine zMh.ofI hst (by decide +kernel) (Nat.le_of_ble_eq_true rfl) fun G hG hT hR hE => ?_
  show zW G F 0 0 I [(0, .ref (F.1 0)), (1, .int (zI p0)), (2, .int (zI p1)), (3, .ref (F.1 129))] [] 0
  refine z_aload_n 3 hG dL_tokenStart_0 rfl rfl ?_
  refine z_iconst 0 hG dL_tokenStart_1 ?_
  refine z_aload_n 0 hG dL_tokenStart_2 rfl rfl ?_
  refine z_iload_n 1 hG dL_tokenStart_3 rfl rfl ?_
  refine z_iload_n 2 hG dL_tokenStart_4 rfl rfl ?_
  refine z_callVX [.int (zI p0), .int (zI p1)] hG hR hM hd_X3_tokenStart kw457 kw458 kw459 rfl (zltL hL (by decide)) (zl0 hL.m.c) (by decide) (by decide) (by decide) (by decide) rfl rfl (Nat.le_of_ble_eq_true rfl) dL_tokenStart_5 (fun E I' hq => ?_) (fun r I' hq => ?_)
  · obtain ⟨hE9, h⟩ := hx E I' hq
    subst hE9
    refine z_catch1 hG hT rfl (by decide) (by decide) kw417 kca3 (fun q => ?_)
    refine z_astore hG dL_tokenStart_13 (by decide) rfl ?_
    refine z_iconst 1 hG dL_tokenStart_15 ?_
    exact hE _ _ _ _ dL_tokenStart_16 ⟨1, rfl, by decide, h⟩
  · obtain ⟨v, rfl, hv, h⟩ := hp r I' hq
    show zW G F 2 12 I' [(0, .ref (F.1 0)), (1, .int (zI p0)), (2, .int (zI p1)), (3, .ref (F.1 129))] [.int (zI v), .int (zI 0), .ref (F.1 129)] 8
    refine z_i2l hG dL_tokenStart_8 hv ?_
    refine z_last hG (zltL hL (by decide)) (zl129 hL) (by decide) (by decide) dL_tokenStart_9 ?_
    refine z_goto (tgt := 17) hG dL_tokenStart_10 (by decide) ?_
    refine z_iconst 0 hG dL_tokenStart_17 ?_
    exact hE _ _ _ _ dL_tokenStart_18 ⟨0, rfl, by decide, h⟩
abbrev rm_L_sameAtFront : Room := { frames := 8, cells := 2, slots := 12, locals := 127 }
theorem hd_L_sameAtFront : zHeadH yL_sameAtFront cL_sameAtFront 5 4 (some .int) [(0, 10, 13, 25)] := ⟨kw463, kw0, by decide +kernel, by decide +kernel, by decide +kernel⟩
set_option maxRecDepth 100000 in
set_option maxHeartbeats 4000000 in
theorem c_L_sameAtFront {F : zFr} {I : zStore} {p0 : Int} {p1 : Int} {post : Option Value → zStore → Prop} {px : String → zStore → Prop} {P : Int → zStore → Prop} (hL : zLayL F)
    (hM : ∀ (l : Launch) (D : va_G) (cs : Nat → ClassId), l.stackTraces = false → zMx l yX3_sameAtFront cX3_sameAtFront 5 (some .int) rm_X3_sameAtFront D cs F I [.ref (F.1 0), .int (zI p0), .int (zI p1)] post px)
    (hp : ∀ r I', post r I' → ∃ v : Int, r = some (.int (zI v)) ∧ (-2147483648 ≤ v ∧ v < 2147483648) ∧ P 0 (zup I' 129 0 v)) (hx : ∀ E I', px E I' → (E = "java/lang/IndexOutOfBoundsException" ∧ P 1 I')) :
    ∀ (l : Launch) (D : va_G) (cs : Nat → ClassId), l.stackTraces = false → zMh l yL_sameAtFront cL_sameAtFront 5 (some .int) [(0, 10, 13, 25)] rm_L_sameAtFront D cs F I [.ref (F.1 0), .int (zI p0), .int (zI p1), .ref (F.1 129)] (fun r I' => ∃ k : Int, r = some (.int (zI k)) ∧ (0 ≤ k ∧ k ≤ 2) ∧ P k I') := by
  intro l D cs hst
  refine zMh.ofI hst (by decide +kernel) (Nat.le_of_ble_eq_true rfl) fun G hG hT hR hE => ?_
  show zW G F 0 0 I [(0, .ref (F.1 0)), (1, .int (zI p0)), (2, .int (zI p1)), (3, .ref (F.1 129))] [] 0
  refine z_aload_n 3 hG dL_sameAtFront_0 rfl rfl ?_
  refine z_iconst 0 hG dL_sameAtFront_1 ?_
  refine z_aload_n 0 hG dL_sameAtFront_2 rfl rfl ?_
  refine z_iload_n 1 hG dL_sameAtFront_3 rfl rfl ?_
  refine z_iload_n 2 hG dL_sameAtFront_4 rfl rfl ?_
  refine z_callVX [.int (zI p0), .int (zI p1)] hG hR hM hd_X3_sameAtFront kw464 kw465 kw466 rfl (zltL hL (by decide)) (zl0 hL.m.c) (by decide) (by decide) (by decide) (by decide) rfl rfl (Nat.le_of_ble_eq_true rfl) dL_sameAtFront_5 (fun E I' hq => ?_) (fun r I' hq => ?_)
  · obtain ⟨hE9, h⟩ := hx E I' hq
    subst hE9
    refine z_catch1 hG hT rfl (by decide) (by decide) kw417 kca3 (fun q => ?_)
    refine z_astore hG dL_sameAtFront_13 (by decide) rfl ?_
    refine z_iconst 1 hG dL_sameAtFront_15 ?_
    exact hE _ _ _ _ dL_sameAtFront_16 ⟨1, rfl, by decide, h⟩
  · obtain ⟨v, rfl, hv, h⟩ := hp r I' hq
    show zW G F 2 12 I' [(0, .ref (F.1 0)), (1, .int (zI p0)), (2, .int (zI p1)), (3, .ref (F.1 129))] [.int (zI v), .int (zI 0), .ref (F.1 129)] 8
    refine z_i2l hG dL_sameAtFront_8 hv ?_
    refine z_last hG (zltL hL (by decide)) (zl129 hL) (by decide) (by decide) dL_sameAtFront_9 ?_
    refine z_goto (tgt := 17) hG dL_sameAtFront_10 (by decide) ?_
    refine z_iconst 0 hG dL_sameAtFront_17 ?_
    exact hE _ _ _ _ dL_sameAtFront_18 ⟨0, rfl, by decide, h⟩
abbrev rm_L_setCosts : Room := { frames := 7, cells := 1, slots := 6, locals := 105 }
theorem hd_L_setCosts : zHeadH yL_setCosts cL_setCosts 6 5 (some .int) [(0, 19, 22, 13)] := ⟨kw471, kw0, by decide +kernel, by decide +kernel, by decide +kernel⟩
set_option maxRecDepth 100000 in
set_option maxHeartbeats 4000000 in
theorem c_L_setCosts {F : zFr} {I : zStore} {p0 : Int} {p1 : Int} {p2 : Int} {post : Option Value → zStore → Prop} {px : String → zStore → Prop} {P : Int → zStore → Prop} (hL : zLayL F)
    (hM : ∀ (l : Launch) (D : va_G) (cs : Nat → ClassId), l.stackTraces = false → zMx l yX3_setCosts cX3_setCosts 4 (some .boolean) rm_X3_setCosts D cs F I [.ref (F.1 0), .int (zI p0), .int (zI p1), .int (zI p2)] post px)
    (hp : ∀ r I', post r I' → ∃ v : Int, r = some (.int (zI v)) ∧ (v = 0 ∨ v = 1) ∧ P 0 (zup I' 129 0 v)) (hx : ∀ E I', px E I' → (E = "java/lang/IllegalArgumentException" ∧ P 1 I')) :
    ∀ (l : Launch) (D : va_G) (cs : Nat → ClassId), l.stackTraces = false → zMh l yL_setCosts cL_setCosts 6 (some .int) [(0, 19, 22, 13)] rm_L_setCosts D cs F I [.ref (F.1 0), .int (zI p0), .int (zI p1), .int (zI p2), .ref (F.1 129)] (fun r I' => ∃ k : Int, r = some (.int (zI k)) ∧ (0 ≤ k ∧ k ≤ 2) ∧ P k I') := by
  intro l D cs hst
  refine zMh.ofI hst (by decide +kernel) (Nat.le_of_ble_eq_true rfl) fun G hG hT hR hE => ?_
  show zW G F 0 0 I [(0, .ref (F.1 0)), (1, .int (zI p0)), (2, .int (zI p1)), (3, .int (zI p2)), (4, .ref (F.1 129))] [] 0
  refine z_aload 4 hG dL_setCosts_0 rfl ?_
  refine z_iconst 0 hG dL_setCosts_2 ?_
  refine z_aload_n 0 hG dL_setCosts_3 rfl rfl ?_
  refine z_iload_n 1 hG dL_setCosts_4 rfl rfl ?_
  refine z_iload_n 2 hG dL_setCosts_5 rfl rfl ?_
  refine z_iload_n 3 hG dL_setCosts_6 rfl rfl ?_
  refine z_callVX [.int (zI p0), .int (zI p1), .int (zI p2)] hG hR hM hd_X3_setCosts kw472 kw473 kw474 rfl (zltL hL (by decide)) (zl0 hL.m.c) (by decide) (by decide) (by decide) (by decide) rfl rfl (Nat.le_of_ble_eq_true rfl) dL_setCosts_7 (fun E I' hq => ?_) (fun r I' hq => ?_)
  · obtain ⟨hE9, h⟩ := hx E I' hq
    subst hE9
    refine z_catch1 hG hT rfl (by decide) (by decide) kw286 kca1 (fun q => ?_)
    refine z_astore hG dL_setCosts_22 (by decide) rfl ?_
    refine z_iconst 1 hG dL_setCosts_24 ?_
    exact hE _ _ _ _ dL_setCosts_25 ⟨1, rfl, by decide, h⟩
  · obtain ⟨v, rfl, hv, h⟩ := hp r I' hq
    show zW G F 1 6 I' [(0, .ref (F.1 0)), (1, .int (zI p0)), (2, .int (zI p1)), (3, .int (zI p2)), (4, .ref (F.1 129))] [.int (zI v), .int (zI 0), .ref (F.1 129)] 10
    refine z_if_eq (tgt := 17) hG dL_setCosts_10 (by decide) (by omega) (fun e => ?_) (fun e => ?_)
    · subst e
      refine z_lconst 0 hG dL_setCosts_17 rfl ?_
      refine z_last hG (zltL hL (by decide)) (zl129 hL) (by decide) (by decide) dL_setCosts_18 ?_
      refine z_goto (tgt := 26) hG dL_setCosts_19 (by decide) ?_
      refine z_iconst 0 hG dL_setCosts_26 ?_
      exact hE _ _ _ _ dL_setCosts_27 ⟨0, rfl, by decide, h⟩
    · have e1 : v = 1 := by omega
      subst e1
      refine z_lconst 1 hG dL_setCosts_13 rfl ?_
      refine z_goto (tgt := 18) hG dL_setCosts_14 (by decide) ?_
      refine z_last hG (zltL hL (by decide)) (zl129 hL) (by decide) (by decide) dL_setCosts_18 ?_
      refine z_goto (tgt := 26) hG dL_setCosts_19 (by decide) ?_
      refine z_iconst 0 hG dL_setCosts_26 ?_
      exact hE _ _ _ _ dL_setCosts_27 ⟨0, rfl, by decide, h⟩
abbrev rm_L_merge : Room := { frames := 8, cells := 2, slots := 12, locals := 149 }
theorem hd_L_merge : zHeadH yL_merge cL_merge 4 3 (some .int) [(0, 9, 12, 25), (0, 9, 15, 15)] := ⟨kw486, kw0, by decide +kernel, by decide +kernel, by decide +kernel⟩
set_option maxRecDepth 100000 in
set_option maxHeartbeats 4000000 in
theorem c_L_merge {F : zFr} {I : zStore} {p0 : Int} {post : Option Value → zStore → Prop} {px : String → zStore → Prop} {P : Int → zStore → Prop} (hL : zLayL F)
    (hM : ∀ (l : Launch) (D : va_G) (cs : Nat → ClassId), l.stackTraces = false → zMx l yX3_merge cX3_merge 5 (some .int) rm_X3_merge D cs F I [.ref (F.1 0), .int (zI p0)] post px)
    (hp : ∀ r I', post r I' → ∃ v : Int, r = some (.int (zI v)) ∧ (-2147483648 ≤ v ∧ v < 2147483648) ∧ P 0 (zup I' 129 0 v)) (hx : ∀ E I', px E I' → (E = "java/lang/IndexOutOfBoundsException" ∧ P 1 I') ∨ (E = "java/lang/IllegalStateException" ∧ P 2 I')) :
    ∀ (l : Launch) (D : va_G) (cs : Nat → ClassId), l.stackTraces = false → zMh l yL_merge cL_merge 4 (some .int) [(0, 9, 12, 25), (0, 9, 15, 15)] rm_L_merge D cs F I [.ref (F.1 0), .int (zI p0), .ref (F.1 129)] (fun r I' => ∃ k : Int, r = some (.int (zI k)) ∧ (0 ≤ k ∧ k ≤ 2) ∧ P k I') := by
  intro l D cs hst
  refine zMh.ofI hst (by decide +kernel) (Nat.le_of_ble_eq_true rfl) fun G hG hT hR hE => ?_
  show zW G F 0 0 I [(0, .ref (F.1 0)), (1, .int (zI p0)), (2, .ref (F.1 129))] [] 0
  refine z_aload_n 2 hG dL_merge_0 rfl rfl ?_
  refine z_iconst 0 hG dL_merge_1 ?_
  refine z_aload_n 0 hG dL_merge_2 rfl rfl ?_
  refine z_iload_n 1 hG dL_merge_3 rfl rfl ?_
  refine z_callVX [.int (zI p0)] hG hR hM hd_X3_merge kw487 kw488 kw489 rfl (zltL hL (by decide)) (zl0 hL.m.c) (by decide) (by decide) (by decide) (by decide) rfl rfl (Nat.le_of_ble_eq_true rfl) dL_merge_4 (fun E I' hq => ?_) (fun r I' hq => ?_)
  · rcases hx E I' hq with ⟨hE9, h⟩ | ⟨hE9, h⟩
    · subst hE9
      refine z_catch1 hG hT rfl (by decide) (by decide) kw417 kca3 (fun q => ?_)
      refine z_astore_n hG dL_merge_12 rfl (by decide) rfl ?_
      refine z_iconst 1 hG dL_merge_13 ?_
      exact hE _ _ _ _ dL_merge_14 ⟨1, rfl, by decide, h⟩
    · subst hE9
      refine z_catch2 hG hT rfl (by decide) (by decide) (by decide) kw417 (by decide) kw287 kca2 (fun q => ?_)
      refine z_astore_n hG dL_merge_15 rfl (by decide) rfl ?_
      refine z_iconst 2 hG dL_merge_16 ?_
      exact hE _ _ _ _ dL_merge_17 ⟨2, rfl, by decide, h⟩
  · obtain ⟨v, rfl, hv, h⟩ := hp r I' hq
    show zW G F 2 12 I' [(0, .ref (F.1 0)), (1, .int (zI p0)), (2, .ref (F.1 129))] [.int (zI v), .int (zI 0), .ref (F.1 129)] 7
    refine z_i2l hG dL_merge_7 hv ?_
    refine z_last hG (zltL hL (by decide)) (zl129 hL) (by decide) (by decide) dL_merge_8 ?_
    refine z_goto (tgt := 18) hG dL_merge_9 (by decide) ?_
    refine z_iconst 0 hG dL_merge_18 ?_
    exact hE _ _ _ _ dL_merge_19 ⟨0, rfl, by decide, h⟩
abbrev rm_L_isMerged : Room := { frames := 8, cells := 1, slots := 6, locals := 124 }
theorem hd_L_isMerged : zHeadH yL_isMerged cL_isMerged 4 3 (some .int) [(0, 16, 19, 25)] := ⟨kw522, kw0, by decide +kernel, by decide +kernel, by decide +kernel⟩
set_option maxRecDepth 100000 in
set_option maxHeartbeats 4000000 in
theorem c_L_isMerged {F : zFr} {I : zStore} {p0 : Int} {post : Option Value → zStore → Prop} {px : String → zStore → Prop} {P : Int → zStore → Prop} (hL : zLayL F)
    (hM : ∀ (l : Launch) (D : va_G) (cs : Nat → ClassId), l.stackTraces = false → zMx l yX3_isMerged cX3_isMerged 2 (some .boolean) rm_X3_isMerged D cs F I [.ref (F.1 0), .int (zI p0)] post px)
    (hp : ∀ r I', post r I' → ∃ v : Int, r = some (.int (zI v)) ∧ (v = 0 ∨ v = 1) ∧ P 0 (zup I' 129 0 v)) (hx : ∀ E I', px E I' → (E = "java/lang/IndexOutOfBoundsException" ∧ P 1 I')) :
    ∀ (l : Launch) (D : va_G) (cs : Nat → ClassId), l.stackTraces = false → zMh l yL_isMerged cL_isMerged 4 (some .int) [(0, 16, 19, 25)] rm_L_isMerged D cs F I [.ref (F.1 0), .int (zI p0), .ref (F.1 129)] (fun r I' => ∃ k : Int, r = some (.int (zI k)) ∧ (0 ≤ k ∧ k ≤ 2) ∧ P k I') := by
  intro l D cs hst
  refine zMh.ofI hst (by decide +kernel) (Nat.le_of_ble_eq_true rfl) fun G hG hT hR hE => ?_
  show zW G F 0 0 I [(0, .ref (F.1 0)), (1, .int (zI p0)), (2, .ref (F.1 129))] [] 0
  refine z_aload_n 2 hG dL_isMerged_0 rfl rfl ?_
  refine z_iconst 0 hG dL_isMerged_1 ?_
  refine z_aload_n 0 hG dL_isMerged_2 rfl rfl ?_
  refine z_iload_n 1 hG dL_isMerged_3 rfl rfl ?_
  refine z_callVX [.int (zI p0)] hG hR hM hd_X3_isMerged kw523 kw524 kw525 rfl (zltL hL (by decide)) (zl0 hL.m.c) (by decide) (by decide) (by decide) (by decide) rfl rfl (Nat.le_of_ble_eq_true rfl) dL_isMerged_4 (fun E I' hq => ?_) (fun r I' hq => ?_)
  · obtain ⟨hE9, h⟩ := hx E I' hq
    subst hE9
    refine z_catch1 hG hT rfl (by decide) (by decide) kw417 kca3 (fun q => ?_)
    refine z_astore_n hG dL_isMerged_19 rfl (by decide) rfl ?_
    refine z_iconst 1 hG dL_isMerged_20 ?_
    exact hE _ _ _ _ dL_isMerged_21 ⟨1, rfl, by decide, h⟩
  · obtain ⟨v, rfl, hv, h⟩ := hp r I' hq
    show zW G F 1 6 I' [(0, .ref (F.1 0)), (1, .int (zI p0)), (2, .ref (F.1 129))] [.int (zI v), .int (zI 0), .ref (F.1 129)] 7
    refine z_if_eq (tgt := 14) hG dL_isMerged_7 (by decide) (by omega) (fun e => ?_) (fun e => ?_)
    · subst e
      refine z_lconst 0 hG dL_isMerged_14 rfl ?_
      refine z_last hG (zltL hL (by decide)) (zl129 hL) (by decide) (by decide) dL_isMerged_15 ?_
      refine z_goto (tgt := 22) hG dL_isMerged_16 (by decide) ?_
      refine z_iconst 0 hG dL_isMerged_22 ?_
      exact hE _ _ _ _ dL_isMerged_23 ⟨0, rfl, by decide, h⟩
    · have e1 : v = 1 := by omega
      subst e1
      refine z_lconst 1 hG dL_isMerged_10 rfl ?_
      refine z_goto (tgt := 15) hG dL_isMerged_11 (by decide) ?_
      refine z_last hG (zltL hL (by decide)) (zl129 hL) (by decide) (by decide) dL_isMerged_15 ?_
      refine z_goto (tgt := 22) hG dL_isMerged_16 (by decide) ?_
      refine z_iconst 0 hG dL_isMerged_22 ?_
      exact hE _ _ _ _ dL_isMerged_23 ⟨0, rfl, by decide, h⟩
abbrev rm_L_costWith : Room := { frames := 8, cells := 1, slots := 6, locals := 124 }
theorem hd_L_costWith : zHeadH yL_costWith cL_costWith 4 3 (some .int) [(0, 9, 12, 25)] := ⟨kw529, kw0, by decide +kernel, by decide +kernel, by decide +kernel⟩
set_option maxRecDepth 100000 in
set_option maxHeartbeats 4000000 in
theorem c_L_costWith {F : zFr} {I : zStore} {p0 : Int} {post : Option Value → zStore → Prop} {px : String → zStore → Prop} {P : Int → zStore → Prop} (hL : zLayL F)
    (hM : ∀ (l : Launch) (D : va_G) (cs : Nat → ClassId), l.stackTraces = false → zMx l yX3_costWith cX3_costWith 2 (some .int) rm_X3_costWith D cs F I [.ref (F.1 0), .int (zI p0)] post px)
    (hp : ∀ r I', post r I' → ∃ v : Int, r = some (.int (zI v)) ∧ (-2147483648 ≤ v ∧ v < 2147483648) ∧ P 0 (zup I' 129 0 v)) (hx : ∀ E I', px E I' → (E = "java/lang/IndexOutOfBoundsException" ∧ P 1 I')) :
    ∀ (l : Launch) (D : va_G) (cs : Nat → ClassId), l.stackTraces = false → zMh l yL_costWith cL_costWith 4 (some .int) [(0, 9, 12, 25)] rm_L_costWith D cs F I [.ref (F.1 0), .int (zI p0), .ref (F.1 129)] (fun r I' => ∃ k : Int, r = some (.int (zI k)) ∧ (0 ≤ k ∧ k ≤ 2) ∧ P k I') := by
  intro l D cs hst
  refine zMh.ofI hst (by decide +kernel) (Nat.le_of_ble_eq_true rfl) fun G hG hT hR hE => ?_
  show zW G F 0 0 I [(0, .ref (F.1 0)), (1, .int (zI p0)), (2, .ref (F.1 129))] [] 0
  refine z_aload_n 2 hG dL_costWith_0 rfl rfl ?_
  refine z_iconst 0 hG dL_costWith_1 ?_
  refine z_aload_n 0 hG dL_costWith_2 rfl rfl ?_
  refine z_iload_n 1 hG dL_costWith_3 rfl rfl ?_
  refine z_callVX [.int (zI p0)] hG hR hM hd_X3_costWith kw530 kw531 kw532 rfl (zltL hL (by decide)) (zl0 hL.m.c) (by decide) (by decide) (by decide) (by decide) rfl rfl (Nat.le_of_ble_eq_true rfl) dL_costWith_4 (fun E I' hq => ?_) (fun r I' hq => ?_)
  · obtain ⟨hE9, h⟩ := hx E I' hq
    subst hE9
    refine z_catch1 hG hT rfl (by decide) (by decide) kw417 kca3 (fun q => ?_)
    refine z_astore_n hG dL_costWith_12 rfl (by decide) rfl ?_
    refine z_iconst 1 hG dL_costWith_13 ?_
    exact hE _ _ _ _ dL_costWith_14 ⟨1, rfl, by decide, h⟩
  · obtain ⟨v, rfl, hv, h⟩ := hp r I' hq
    show zW G F 1 6 I' [(0, .ref (F.1 0)), (1, .int (zI p0)), (2, .ref (F.1 129))] [.int (zI v), .int (zI 0), .ref (F.1 129)] 7
    refine z_i2l hG dL_costWith_7 hv ?_
    refine z_last hG (zltL hL (by decide)) (zl129 hL) (by decide) (by decide) dL_costWith_8 ?_
    refine z_goto (tgt := 15) hG dL_costWith_9 (by decide) ?_
    refine z_iconst 0 hG dL_costWith_15 ?_
    exact hE _ _ _ _ dL_costWith_16 ⟨0, rfl, by decide, h⟩
abbrev rm_L_fits : Room := { frames := 8, cells := 1, slots := 6, locals := 124 }
theorem hd_L_fits : zHeadH yL_fits cL_fits 4 3 (some .int) [(0, 16, 19, 25)] := ⟨kw536, kw0, by decide +kernel, by decide +kernel, by decide +kernel⟩
set_option maxRecDepth 100000 in
set_option maxHeartbeats 4000000 in
theorem c_L_fits {F : zFr} {I : zStore} {p0 : Int} {post : Option Value → zStore → Prop} {px : String → zStore → Prop} {P : Int → zStore → Prop} (hL : zLayL F)
    (hM : ∀ (l : Launch) (D : va_G) (cs : Nat → ClassId), l.stackTraces = false → zMx l yX3_fits cX3_fits 2 (some .boolean) rm_X3_fits D cs F I [.ref (F.1 0), .int (zI p0)] post px)
    (hp : ∀ r I', post r I' → ∃ v : Int, r = some (.int (zI v)) ∧ (v = 0 ∨ v = 1) ∧ P 0 (zup I' 129 0 v)) (hx : ∀ E I', px E I' → (E = "java/lang/IndexOutOfBoundsException" ∧ P 1 I')) :
    ∀ (l : Launch) (D : va_G) (cs : Nat → ClassId), l.stackTraces = false → zMh l yL_fits cL_fits 4 (some .int) [(0, 16, 19, 25)] rm_L_fits D cs F I [.ref (F.1 0), .int (zI p0), .ref (F.1 129)] (fun r I' => ∃ k : Int, r = some (.int (zI k)) ∧ (0 ≤ k ∧ k ≤ 2) ∧ P k I') := by
  intro l D cs hst
  refine zMh.ofI hst (by decide +kernel) (Nat.le_of_ble_eq_true rfl) fun G hG hT hR hE => ?_
  show zW G F 0 0 I [(0, .ref (F.1 0)), (1, .int (zI p0)), (2, .ref (F.1 129))] [] 0
  refine z_aload_n 2 hG dL_fits_0 rfl rfl ?_
  refine z_iconst 0 hG dL_fits_1 ?_
  refine z_aload_n 0 hG dL_fits_2 rfl rfl ?_
  refine z_iload_n 1 hG dL_fits_3 rfl rfl ?_
  refine z_callVX [.int (zI p0)] hG hR hM hd_X3_fits kw537 kw538 kw539 rfl (zltL hL (by decide)) (zl0 hL.m.c) (by decide) (by decide) (by decide) (by decide) rfl rfl (Nat.le_of_ble_eq_true rfl) dL_fits_4 (fun E I' hq => ?_) (fun r I' hq => ?_)
  · obtain ⟨hE9, h⟩ := hx E I' hq
    subst hE9
    refine z_catch1 hG hT rfl (by decide) (by decide) kw417 kca3 (fun q => ?_)
    refine z_astore_n hG dL_fits_19 rfl (by decide) rfl ?_
    refine z_iconst 1 hG dL_fits_20 ?_
    exact hE _ _ _ _ dL_fits_21 ⟨1, rfl, by decide, h⟩
  · obtain ⟨v, rfl, hv, h⟩ := hp r I' hq
    show zW G F 1 6 I' [(0, .ref (F.1 0)), (1, .int (zI p0)), (2, .ref (F.1 129))] [.int (zI v), .int (zI 0), .ref (F.1 129)] 7
    refine z_if_eq (tgt := 14) hG dL_fits_7 (by decide) (by omega) (fun e => ?_) (fun e => ?_)
    · subst e
      refine z_lconst 0 hG dL_fits_14 rfl ?_
      refine z_last hG (zltL hL (by decide)) (zl129 hL) (by decide) (by decide) dL_fits_15 ?_
      refine z_goto (tgt := 22) hG dL_fits_16 (by decide) ?_
      refine z_iconst 0 hG dL_fits_22 ?_
      exact hE _ _ _ _ dL_fits_23 ⟨0, rfl, by decide, h⟩
    · have e1 : v = 1 := by omega
      subst e1
      refine z_lconst 1 hG dL_fits_10 rfl ?_
      refine z_goto (tgt := 15) hG dL_fits_11 (by decide) ?_
      refine z_last hG (zltL hL (by decide)) (zl129 hL) (by decide) (by decide) dL_fits_15 ?_
      refine z_goto (tgt := 22) hG dL_fits_16 (by decide) ?_
      refine z_iconst 0 hG dL_fits_22 ?_
      exact hE _ _ _ _ dL_fits_23 ⟨0, rfl, by decide, h⟩
abbrev rm_L_slotKind : Room := { frames := 8, cells := 1, slots := 6, locals := 124 }
theorem hd_L_slotKind : zHeadH yL_slotKind cL_slotKind 4 3 (some .int) [(0, 9, 12, 25)] := ⟨kw551, kw0, by decide +kernel, by decide +kernel, by decide +kernel⟩
set_option maxRecDepth 100000 in
set_option maxHeartbeats 4000000 in
theorem c_L_slotKind {F : zFr} {I : zStore} {p0 : Int} {post : Option Value → zStore → Prop} {px : String → zStore → Prop} {P : Int → zStore → Prop} (hL : zLayL F)
    (hM : ∀ (l : Launch) (D : va_G) (cs : Nat → ClassId), l.stackTraces = false → zMx l yX3_slotKind cX3_slotKind 2 (some .int) rm_X3_slotKind D cs F I [.ref (F.1 0), .int (zI p0)] post px)
    (hp : ∀ r I', post r I' → ∃ v : Int, r = some (.int (zI v)) ∧ (-2147483648 ≤ v ∧ v < 2147483648) ∧ P 0 (zup I' 129 0 v)) (hx : ∀ E I', px E I' → (E = "java/lang/IndexOutOfBoundsException" ∧ P 1 I')) :
    ∀ (l : Launch) (D : va_G) (cs : Nat → ClassId), l.stackTraces = false → zMh l yL_slotKind cL_slotKind 4 (some .int) [(0, 9, 12, 25)] rm_L_slotKind D cs F I [.ref (F.1 0), .int (zI p0), .ref (F.1 129)] (fun r I' => ∃ k : Int, r = some (.int (zI k)) ∧ (0 ≤ k ∧ k ≤ 2) ∧ P k I') := by
  intro l D cs hst
  refine zMh.ofI hst (by decide +kernel) (Nat.le_of_ble_eq_true rfl) fun G hG hT hR hE => ?_
  show zW G F 0 0 I [(0, .ref (F.1 0)), (1, .int (zI p0)), (2, .ref (F.1 129))] [] 0
  refine z_aload_n 2 hG dL_slotKind_0 rfl rfl ?_
  refine z_iconst 0 hG dL_slotKind_1 ?_
  refine z_aload_n 0 hG dL_slotKind_2 rfl rfl ?_
  refine z_iload_n 1 hG dL_slotKind_3 rfl rfl ?_
  refine z_callVX [.int (zI p0)] hG hR hM hd_X3_slotKind kw552 kw553 kw554 rfl (zltL hL (by decide)) (zl0 hL.m.c) (by decide) (by decide) (by decide) (by decide) rfl rfl (Nat.le_of_ble_eq_true rfl) dL_slotKind_4 (fun E I' hq => ?_) (fun r I' hq => ?_)
  · obtain ⟨hE9, h⟩ := hx E I' hq
    subst hE9
    refine z_catch1 hG hT rfl (by decide) (by decide) kw417 kca3 (fun q => ?_)
    refine z_astore_n hG dL_slotKind_12 rfl (by decide) rfl ?_
    refine z_iconst 1 hG dL_slotKind_13 ?_
    exact hE _ _ _ _ dL_slotKind_14 ⟨1, rfl, by decide, h⟩
  · obtain ⟨v, rfl, hv, h⟩ := hp r I' hq
    show zW G F 1 6 I' [(0, .ref (F.1 0)), (1, .int (zI p0)), (2, .ref (F.1 129))] [.int (zI v), .int (zI 0), .ref (F.1 129)] 7
    refine z_i2l hG dL_slotKind_7 hv ?_
    refine z_last hG (zltL hL (by decide)) (zl129 hL) (by decide) (by decide) dL_slotKind_8 ?_
    refine z_goto (tgt := 15) hG dL_slotKind_9 (by decide) ?_
    refine z_iconst 0 hG dL_slotKind_15 ?_
    exact hE _ _ _ _ dL_slotKind_16 ⟨0, rfl, by decide, h⟩
abbrev rm_L_textByte : Room := { frames := 8, cells := 2, slots := 12, locals := 126 }
theorem hd_L_textByte : zHeadH yL_textByte cL_textByte 5 4 (some .int) [(0, 10, 13, 25)] := ⟨kw563, kw0, by decide +kernel, by decide +kernel, by decide +kernel⟩
set_option maxRecDepth 100000 in
set_option maxHeartbeats 4000000 in
theorem c_L_textByte {F : zFr} {I : zStore} {p0 : Int} {p1 : Int} {post : Option Value → zStore → Prop} {px : String → zStore → Prop} {P : Int → zStore → Prop} (hL : zLayL F)
    (hM : ∀ (l : Launch) (D : va_G) (cs : Nat → ClassId), l.stackTraces = false → zMx l yX3_textByte cX3_textByte 4 (some .int) rm_X3_textByte D cs F I [.ref (F.1 0), .int (zI p0), .int (zI p1)] post px)
    (hp : ∀ r I', post r I' → ∃ v : Int, r = some (.int (zI v)) ∧ (-2147483648 ≤ v ∧ v < 2147483648) ∧ P 0 (zup I' 129 0 v)) (hx : ∀ E I', px E I' → (E = "java/lang/IndexOutOfBoundsException" ∧ P 1 I')) :
    ∀ (l : Launch) (D : va_G) (cs : Nat → ClassId), l.stackTraces = false → zMh l yL_textByte cL_textByte 5 (some .int) [(0, 10, 13, 25)] rm_L_textByte D cs F I [.ref (F.1 0), .int (zI p0), .int (zI p1), .ref (F.1 129)] (fun r I' => ∃ k : Int, r = some (.int (zI k)) ∧ (0 ≤ k ∧ k ≤ 2) ∧ P k I') := by
  intro l D cs hst
  refine zMh.ofI hst (by decide +kernel) (Nat.le_of_ble_eq_true rfl) fun G hG hT hR hE => ?_
  show zW G F 0 0 I [(0, .ref (F.1 0)), (1, .int (zI p0)), (2, .int (zI p1)), (3, .ref (F.1 129))] [] 0
  refine z_aload_n 3 hG dL_textByte_0 rfl rfl ?_
  refine z_iconst 0 hG dL_textByte_1 ?_
  refine z_aload_n 0 hG dL_textByte_2 rfl rfl ?_
  refine z_iload_n 1 hG dL_textByte_3 rfl rfl ?_
  refine z_iload_n 2 hG dL_textByte_4 rfl rfl ?_
  refine z_callVX [.int (zI p0), .int (zI p1)] hG hR hM hd_X3_textByte kw564 kw565 kw566 rfl (zltL hL (by decide)) (zl0 hL.m.c) (by decide) (by decide) (by decide) (by decide) rfl rfl (Nat.le_of_ble_eq_true rfl) dL_textByte_5 (fun E I' hq => ?_) (fun r I' hq => ?_)
  · obtain ⟨hE9, h⟩ := hx E I' hq
    subst hE9
    refine z_catch1 hG hT rfl (by decide) (by decide) kw417 kca3 (fun q => ?_)
    refine z_astore hG dL_textByte_13 (by decide) rfl ?_
    refine z_iconst 1 hG dL_textByte_15 ?_
    exact hE _ _ _ _ dL_textByte_16 ⟨1, rfl, by decide, h⟩
  · obtain ⟨v, rfl, hv, h⟩ := hp r I' hq
    show zW G F 2 12 I' [(0, .ref (F.1 0)), (1, .int (zI p0)), (2, .int (zI p1)), (3, .ref (F.1 129))] [.int (zI v), .int (zI 0), .ref (F.1 129)] 8
    refine z_i2l hG dL_textByte_8 hv ?_
    refine z_last hG (zltL hL (by decide)) (zl129 hL) (by decide) (by decide) dL_textByte_9 ?_
    refine z_goto (tgt := 17) hG dL_textByte_10 (by decide) ?_
    refine z_iconst 0 hG dL_textByte_17 ?_
    exact hE _ _ _ _ dL_textByte_18 ⟨0, rfl, by decide, h⟩
abbrev rm_L_sizeOf : Room := { frames := 8, cells := 1, slots := 6, locals := 126 }
theorem hd_L_sizeOf : zHeadH yL_sizeOf cL_sizeOf 5 4 (some .int) [(0, 10, 13, 25)] := ⟨kw571, kw0, by decide +kernel, by decide +kernel, by decide +kernel⟩
set_option maxRecDepth 100000 in
set_option maxHeartbeats 4000000 in
theorem c_L_sizeOf {F : zFr} {I : zStore} {p0 : Int} {p1 : Int} {post : Option Value → zStore → Prop} {px : String → zStore → Prop} {P : Int → zStore → Prop} (hL : zLayL F)
    (hM : ∀ (l : Launch) (D : va_G) (cs : Nat → ClassId), l.stackTraces = false → zMx l yX3_sizeOf cX3_sizeOf 4 (some .int) rm_X3_sizeOf D cs F I [.ref (F.1 0), .int (zI p0), .int (zI p1)] post px)
    (hp : ∀ r I', post r I' → ∃ v : Int, r = some (.int (zI v)) ∧ (-2147483648 ≤ v ∧ v < 2147483648) ∧ P 0 (zup I' 129 0 v)) (hx : ∀ E I', px E I' → (E = "java/lang/IndexOutOfBoundsException" ∧ P 1 I')) :
    ∀ (l : Launch) (D : va_G) (cs : Nat → ClassId), l.stackTraces = false → zMh l yL_sizeOf cL_sizeOf 5 (some .int) [(0, 10, 13, 25)] rm_L_sizeOf D cs F I [.ref (F.1 0), .int (zI p0), .int (zI p1), .ref (F.1 129)] (fun r I' => ∃ k : Int, r = some (.int (zI k)) ∧ (0 ≤ k ∧ k ≤ 2) ∧ P k I') := by
  intro l D cs hst
  refine zMh.ofI hst (by decide +kernel) (Nat.le_of_ble_eq_true rfl) fun G hG hT hR hE => ?_
  show zW G F 0 0 I [(0, .ref (F.1 0)), (1, .int (zI p0)), (2, .int (zI p1)), (3, .ref (F.1 129))] [] 0
  refine z_aload_n 3 hG dL_sizeOf_0 rfl rfl ?_
  refine z_iconst 0 hG dL_sizeOf_1 ?_
  refine z_aload_n 0 hG dL_sizeOf_2 rfl rfl ?_
  refine z_iload_n 1 hG dL_sizeOf_3 rfl rfl ?_
  refine z_iload_n 2 hG dL_sizeOf_4 rfl rfl ?_
  refine z_callVX [.int (zI p0), .int (zI p1)] hG hR hM hd_X3_sizeOf kw572 kw573 kw574 rfl (zltL hL (by decide)) (zl0 hL.m.c) (by decide) (by decide) (by decide) (by decide) rfl rfl (Nat.le_of_ble_eq_true rfl) dL_sizeOf_5 (fun E I' hq => ?_) (fun r I' hq => ?_)
  · obtain ⟨hE9, h⟩ := hx E I' hq
    subst hE9
    refine z_catch1 hG hT rfl (by decide) (by decide) kw417 kca3 (fun q => ?_)
    refine z_astore hG dL_sizeOf_13 (by decide) rfl ?_
    refine z_iconst 1 hG dL_sizeOf_15 ?_
    exact hE _ _ _ _ dL_sizeOf_16 ⟨1, rfl, by decide, h⟩
  · obtain ⟨v, rfl, hv, h⟩ := hp r I' hq
    show zW G F 1 6 I' [(0, .ref (F.1 0)), (1, .int (zI p0)), (2, .int (zI p1)), (3, .ref (F.1 129))] [.int (zI v), .int (zI 0), .ref (F.1 129)] 8
    refine z_i2l hG dL_sizeOf_8 hv ?_
    refine z_last hG (zltL hL (by decide)) (zl129 hL) (by decide) (by decide) dL_sizeOf_9 ?_
    refine z_goto (tgt := 17) hG dL_sizeOf_10 (by decide) ?_
    refine z_iconst 0 hG dL_sizeOf_17 ?_
    exact hE _ _ _ _ dL_sizeOf_18 ⟨0, rfl, by decide, h⟩
abbrev rm_L_uses : Room := { frames := 8, cells := 1, slots := 6, locals := 124 }
theorem hd_L_uses : zHeadH yL_uses cL_uses 4 3 (some .int) [(0, 9, 12, 25)] := ⟨kw578, kw0, by decide +kernel, by decide +kernel, by decide +kernel⟩
set_option maxRecDepth 100000 in
set_option maxHeartbeats 4000000 in
theorem c_L_uses {F : zFr} {I : zStore} {p0 : Int} {post : Option Value → zStore → Prop} {px : String → zStore → Prop} {P : Int → zStore → Prop} (hL : zLayL F)
    (hM : ∀ (l : Launch) (D : va_G) (cs : Nat → ClassId), l.stackTraces = false → zMx l yX3_uses cX3_uses 2 (some .int) rm_X3_uses D cs F I [.ref (F.1 0), .int (zI p0)] post px)
    (hp : ∀ r I', post r I' → ∃ v : Int, r = some (.int (zI v)) ∧ (-2147483648 ≤ v ∧ v < 2147483648) ∧ P 0 (zup I' 129 0 v)) (hx : ∀ E I', px E I' → (E = "java/lang/IndexOutOfBoundsException" ∧ P 1 I')) :
    ∀ (l : Launch) (D : va_G) (cs : Nat → ClassId), l.stackTraces = false → zMh l yL_uses cL_uses 4 (some .int) [(0, 9, 12, 25)] rm_L_uses D cs F I [.ref (F.1 0), .int (zI p0), .ref (F.1 129)] (fun r I' => ∃ k : Int, r = some (.int (zI k)) ∧ (0 ≤ k ∧ k ≤ 2) ∧ P k I') := by
  intro l D cs hst
  refine zMh.ofI hst (by decide +kernel) (Nat.le_of_ble_eq_true rfl) fun G hG hT hR hE => ?_
  show zW G F 0 0 I [(0, .ref (F.1 0)), (1, .int (zI p0)), (2, .ref (F.1 129))] [] 0
  refine z_aload_n 2 hG dL_uses_0 rfl rfl ?_
  refine z_iconst 0 hG dL_uses_1 ?_
  refine z_aload_n 0 hG dL_uses_2 rfl rfl ?_
  refine z_iload_n 1 hG dL_uses_3 rfl rfl ?_
  refine z_callVX [.int (zI p0)] hG hR hM hd_X3_uses kw579 kw580 kw581 rfl (zltL hL (by decide)) (zl0 hL.m.c) (by decide) (by decide) (by decide) (by decide) rfl rfl (Nat.le_of_ble_eq_true rfl) dL_uses_4 (fun E I' hq => ?_) (fun r I' hq => ?_)
  · obtain ⟨hE9, h⟩ := hx E I' hq
    subst hE9
    refine z_catch1 hG hT rfl (by decide) (by decide) kw417 kca3 (fun q => ?_)
    refine z_astore_n hG dL_uses_12 rfl (by decide) rfl ?_
    refine z_iconst 1 hG dL_uses_13 ?_
    exact hE _ _ _ _ dL_uses_14 ⟨1, rfl, by decide, h⟩
  · obtain ⟨v, rfl, hv, h⟩ := hp r I' hq
    show zW G F 1 6 I' [(0, .ref (F.1 0)), (1, .int (zI p0)), (2, .ref (F.1 129))] [.int (zI v), .int (zI 0), .ref (F.1 129)] 7
    refine z_i2l hG dL_uses_7 hv ?_
    refine z_last hG (zltL hL (by decide)) (zl129 hL) (by decide) (by decide) dL_uses_8 ?_
    refine z_goto (tgt := 15) hG dL_uses_9 (by decide) ?_
    refine z_iconst 0 hG dL_uses_15 ?_
    exact hE _ _ _ _ dL_uses_16 ⟨0, rfl, by decide, h⟩
abbrev rm_L_isOptional : Room := { frames := 8, cells := 1, slots := 6, locals := 124 }
theorem hd_L_isOptional : zHeadH yL_isOptional cL_isOptional 4 3 (some .int) [(0, 16, 19, 25)] := ⟨kw585, kw0, by decide +kernel, by decide +kernel, by decide +kernel⟩
set_option maxRecDepth 100000 in
set_option maxHeartbeats 4000000 in
theorem c_L_isOptional {F : zFr} {I : zStore} {p0 : Int} {post : Option Value → zStore → Prop} {px : String → zStore → Prop} {P : Int → zStore → Prop} (hL : zLayL F)
    (hM : ∀ (l : Launch) (D : va_G) (cs : Nat → ClassId), l.stackTraces = false → zMx l yX3_isOptional cX3_isOptional 2 (some .boolean) rm_X3_isOptional D cs F I [.ref (F.1 0), .int (zI p0)] post px)
    (hp : ∀ r I', post r I' → ∃ v : Int, r = some (.int (zI v)) ∧ (v = 0 ∨ v = 1) ∧ P 0 (zup I' 129 0 v)) (hx : ∀ E I', px E I' → (E = "java/lang/IndexOutOfBoundsException" ∧ P 1 I')) :
    ∀ (l : Launch) (D : va_G) (cs : Nat → ClassId), l.stackTraces = false → zMh l yL_isOptional cL_isOptional 4 (some .int) [(0, 16, 19, 25)] rm_L_isOptional D cs F I [.ref (F.1 0), .int (zI p0), .ref (F.1 129)] (fun r I' => ∃ k : Int, r = some (.int (zI k)) ∧ (0 ≤ k ∧ k ≤ 2) ∧ P k I') := by
  intro l D cs hst
  refine zMh.ofI hst (by decide +kernel) (Nat.le_of_ble_eq_true rfl) fun G hG hT hR hE => ?_
  show zW G F 0 0 I [(0, .ref (F.1 0)), (1, .int (zI p0)), (2, .ref (F.1 129))] [] 0
  refine z_aload_n 2 hG dL_isOptional_0 rfl rfl ?_
  refine z_iconst 0 hG dL_isOptional_1 ?_
  refine z_aload_n 0 hG dL_isOptional_2 rfl rfl ?_
  refine z_iload_n 1 hG dL_isOptional_3 rfl rfl ?_
  refine z_callVX [.int (zI p0)] hG hR hM hd_X3_isOptional kw586 kw587 kw588 rfl (zltL hL (by decide)) (zl0 hL.m.c) (by decide) (by decide) (by decide) (by decide) rfl rfl (Nat.le_of_ble_eq_true rfl) dL_isOptional_4 (fun E I' hq => ?_) (fun r I' hq => ?_)
  · obtain ⟨hE9, h⟩ := hx E I' hq
    subst hE9
    refine z_catch1 hG hT rfl (by decide) (by decide) kw417 kca3 (fun q => ?_)
    refine z_astore_n hG dL_isOptional_19 rfl (by decide) rfl ?_
    refine z_iconst 1 hG dL_isOptional_20 ?_
    exact hE _ _ _ _ dL_isOptional_21 ⟨1, rfl, by decide, h⟩
  · obtain ⟨v, rfl, hv, h⟩ := hp r I' hq
    show zW G F 1 6 I' [(0, .ref (F.1 0)), (1, .int (zI p0)), (2, .ref (F.1 129))] [.int (zI v), .int (zI 0), .ref (F.1 129)] 7
    refine z_if_eq (tgt := 14) hG dL_isOptional_7 (by decide) (by omega) (fun e => ?_) (fun e => ?_)
    · subst e
      refine z_lconst 0 hG dL_isOptional_14 rfl ?_
      refine z_last hG (zltL hL (by decide)) (zl129 hL) (by decide) (by decide) dL_isOptional_15 ?_
      refine z_goto (tgt := 22) hG dL_isOptional_16 (by decide) ?_
      refine z_iconst 0 hG dL_isOptional_22 ?_
      exact hE _ _ _ _ dL_isOptional_23 ⟨0, rfl, by decide, h⟩
    · have e1 : v = 1 := by omega
      subst e1
      refine z_lconst 1 hG dL_isOptional_10 rfl ?_
      refine z_goto (tgt := 15) hG dL_isOptional_11 (by decide) ?_
      refine z_last hG (zltL hL (by decide)) (zl129 hL) (by decide) (by decide) dL_isOptional_15 ?_
      refine z_goto (tgt := 22) hG dL_isOptional_16 (by decide) ?_
      refine z_iconst 0 hG dL_isOptional_22 ?_
      exact hE _ _ _ _ dL_isOptional_23 ⟨0, rfl, by decide, h⟩
abbrev rm_L_tokenAt : Room := { frames := 8, cells := 2, slots := 12, locals := 125 }
theorem hd_L_tokenAt : zHeadH yL_tokenAt cL_tokenAt 5 4 (some .int) [(0, 10, 13, 25)] := ⟨kw592, kw0, by decide +kernel, by decide +kernel, by decide +kernel⟩
set_option maxRecDepth 100000 in
set_option maxHeartbeats 4000000 in
theorem c_L_tokenAt {F : zFr} {I : zStore} {p0 : Int} {p1 : Int} {post : Option Value → zStore → Prop} {px : String → zStore → Prop} {P : Int → zStore → Prop} (hL : zLayL F)
    (hM : ∀ (l : Launch) (D : va_G) (cs : Nat → ClassId), l.stackTraces = false → zMx l yX3_tokenAt cX3_tokenAt 3 (some .int) rm_X3_tokenAt D cs F I [.ref (F.1 0), .int (zI p0), .int (zI p1)] post px)
    (hp : ∀ r I', post r I' → ∃ v : Int, r = some (.int (zI v)) ∧ (-2147483648 ≤ v ∧ v < 2147483648) ∧ P 0 (zup I' 129 0 v)) (hx : ∀ E I', px E I' → (E = "java/lang/IndexOutOfBoundsException" ∧ P 1 I')) :
    ∀ (l : Launch) (D : va_G) (cs : Nat → ClassId), l.stackTraces = false → zMh l yL_tokenAt cL_tokenAt 5 (some .int) [(0, 10, 13, 25)] rm_L_tokenAt D cs F I [.ref (F.1 0), .int (zI p0), .int (zI p1), .ref (F.1 129)] (fun r I' => ∃ k : Int, r = some (.int (zI k)) ∧ (0 ≤ k ∧ k ≤ 2) ∧ P k I') := by
  intro l D cs hst
  refine zMh.ofI hst (by decide +kernel) (Nat.le_of_ble_eq_true rfl) fun G hG hT hR hE => ?_
  show zW G F 0 0 I [(0, .ref (F.1 0)), (1, .int (zI p0)), (2, .int (zI p1)), (3, .ref (F.1 129))] [] 0
  refine z_aload_n 3 hG dL_tokenAt_0 rfl rfl ?_
  refine z_iconst 0 hG dL_tokenAt_1 ?_
  refine z_aload_n 0 hG dL_tokenAt_2 rfl rfl ?_
  refine z_iload_n 1 hG dL_tokenAt_3 rfl rfl ?_
  refine z_iload_n 2 hG dL_tokenAt_4 rfl rfl ?_
  refine z_callVX [.int (zI p0), .int (zI p1)] hG hR hM hd_X3_tokenAt kw593 kw594 kw595 rfl (zltL hL (by decide)) (zl0 hL.m.c) (by decide) (by decide) (by decide) (by decide) rfl rfl (Nat.le_of_ble_eq_true rfl) dL_tokenAt_5 (fun E I' hq => ?_) (fun r I' hq => ?_)
  · obtain ⟨hE9, h⟩ := hx E I' hq
    subst hE9
    refine z_catch1 hG hT rfl (by decide) (by decide) kw417 kca3 (fun q => ?_)
    refine z_astore hG dL_tokenAt_13 (by decide) rfl ?_
    refine z_iconst 1 hG dL_tokenAt_15 ?_
    exact hE _ _ _ _ dL_tokenAt_16 ⟨1, rfl, by decide, h⟩
  · obtain ⟨v, rfl, hv, h⟩ := hp r I' hq
    show zW G F 2 12 I' [(0, .ref (F.1 0)), (1, .int (zI p0)), (2, .int (zI p1)), (3, .ref (F.1 129))] [.int (zI v), .int (zI 0), .ref (F.1 129)] 8
    refine z_i2l hG dL_tokenAt_8 hv ?_
    refine z_last hG (zltL hL (by decide)) (zl129 hL) (by decide) (by decide) dL_tokenAt_9 ?_
    refine z_goto (tgt := 17) hG dL_tokenAt_10 (by decide) ?_
    refine z_iconst 0 hG dL_tokenAt_17 ?_
    exact hE _ _ _ _ dL_tokenAt_18 ⟨0, rfl, by decide, h⟩
abbrev rm_L_numberAt : Room := { frames := 8, cells := 2, slots := 12, locals := 125 }
theorem hd_L_numberAt : zHeadH yL_numberAt cL_numberAt 5 4 (some .int) [(0, 10, 13, 25)] := ⟨kw603, kw0, by decide +kernel, by decide +kernel, by decide +kernel⟩
set_option maxRecDepth 100000 in
set_option maxHeartbeats 4000000 in
theorem c_L_numberAt {F : zFr} {I : zStore} {p0 : Int} {p1 : Int} {post : Option Value → zStore → Prop} {px : String → zStore → Prop} {P : Int → zStore → Prop} (hL : zLayL F)
    (hM : ∀ (l : Launch) (D : va_G) (cs : Nat → ClassId), l.stackTraces = false → zMx l yX3_numberAt cX3_numberAt 3 (some .int) rm_X3_numberAt D cs F I [.ref (F.1 0), .int (zI p0), .int (zI p1)] post px)
    (hp : ∀ r I', post r I' → ∃ v : Int, r = some (.int (zI v)) ∧ (-2147483648 ≤ v ∧ v < 2147483648) ∧ P 0 (zup I' 129 0 v)) (hx : ∀ E I', px E I' → (E = "java/lang/IndexOutOfBoundsException" ∧ P 1 I')) :
    ∀ (l : Launch) (D : va_G) (cs : Nat → ClassId), l.stackTraces = false → zMh l yL_numberAt cL_numberAt 5 (some .int) [(0, 10, 13, 25)] rm_L_numberAt D cs F I [.ref (F.1 0), .int (zI p0), .int (zI p1), .ref (F.1 129)] (fun r I' => ∃ k : Int, r = some (.int (zI k)) ∧ (0 ≤ k ∧ k ≤ 2) ∧ P k I') := by
  intro l D cs hst
  refine zMh.ofI hst (by decide +kernel) (Nat.le_of_ble_eq_true rfl) fun G hG hT hR hE => ?_
  show zW G F 0 0 I [(0, .ref (F.1 0)), (1, .int (zI p0)), (2, .int (zI p1)), (3, .ref (F.1 129))] [] 0
  refine z_aload_n 3 hG dL_numberAt_0 rfl rfl ?_
  refine z_iconst 0 hG dL_numberAt_1 ?_
  refine z_aload_n 0 hG dL_numberAt_2 rfl rfl ?_
  refine z_iload_n 1 hG dL_numberAt_3 rfl rfl ?_
  refine z_iload_n 2 hG dL_numberAt_4 rfl rfl ?_
  refine z_callVX [.int (zI p0), .int (zI p1)] hG hR hM hd_X3_numberAt kw604 kw605 kw606 rfl (zltL hL (by decide)) (zl0 hL.m.c) (by decide) (by decide) (by decide) (by decide) rfl rfl (Nat.le_of_ble_eq_true rfl) dL_numberAt_5 (fun E I' hq => ?_) (fun r I' hq => ?_)
  · obtain ⟨hE9, h⟩ := hx E I' hq
    subst hE9
    refine z_catch1 hG hT rfl (by decide) (by decide) kw417 kca3 (fun q => ?_)
    refine z_astore hG dL_numberAt_13 (by decide) rfl ?_
    refine z_iconst 1 hG dL_numberAt_15 ?_
    exact hE _ _ _ _ dL_numberAt_16 ⟨1, rfl, by decide, h⟩
  · obtain ⟨v, rfl, hv, h⟩ := hp r I' hq
    show zW G F 2 12 I' [(0, .ref (F.1 0)), (1, .int (zI p0)), (2, .int (zI p1)), (3, .ref (F.1 129))] [.int (zI v), .int (zI 0), .ref (F.1 129)] 8
    refine z_i2l hG dL_numberAt_8 hv ?_
    refine z_last hG (zltL hL (by decide)) (zl129 hL) (by decide) (by decide) dL_numberAt_9 ?_
    refine z_goto (tgt := 17) hG dL_numberAt_10 (by decide) ?_
    refine z_iconst 0 hG dL_numberAt_17 ?_
    exact hE _ _ _ _ dL_numberAt_18 ⟨0, rfl, by decide, h⟩
abbrev rm_L_distinct : Room := { frames := 8, cells := 1, slots := 6, locals := 128 }
theorem hd_L_distinct : zHeadH yL_distinct cL_distinct 4 3 (some .int) [(0, 9, 12, 25)] := ⟨kw619, kw0, by decide +kernel, by decide +kernel, by decide +kernel⟩
set_option maxRecDepth 100000 in
set_option maxHeartbeats 4000000 in
theorem c_L_distinct {F : zFr} {I : zStore} {p0 : Int} {post : Option Value → zStore → Prop} {px : String → zStore → Prop} {P : Int → zStore → Prop} (hL : zLayL F)
    (hM : ∀ (l : Launch) (D : va_G) (cs : Nat → ClassId), l.stackTraces = false → zMx l yX3_distinct cX3_distinct 6 (some .int) rm_X3_distinct D cs F I [.ref (F.1 0), .int (zI p0)] post px)
    (hp : ∀ r I', post r I' → ∃ v : Int, r = some (.int (zI v)) ∧ (-2147483648 ≤ v ∧ v < 2147483648) ∧ P 0 (zup I' 129 0 v)) (hx : ∀ E I', px E I' → (E = "java/lang/IndexOutOfBoundsException" ∧ P 1 I')) :
    ∀ (l : Launch) (D : va_G) (cs : Nat → ClassId), l.stackTraces = false → zMh l yL_distinct cL_distinct 4 (some .int) [(0, 9, 12, 25)] rm_L_distinct D cs F I [.ref (F.1 0), .int (zI p0), .ref (F.1 129)] (fun r I' => ∃ k : Int, r = some (.int (zI k)) ∧ (0 ≤ k ∧ k ≤ 2) ∧ P k I') := by
  intro l D cs hst
  refine zMh.ofI hst (by decide +kernel) (Nat.le_of_ble_eq_true rfl) fun G hG hT hR hE => ?_
  show zW G F 0 0 I [(0, .ref (F.1 0)), (1, .int (zI p0)), (2, .ref (F.1 129))] [] 0
  refine z_aload_n 2 hG dL_distinct_0 rfl rfl ?_
  refine z_iconst 0 hG dL_distinct_1 ?_
  refine z_aload_n 0 hG dL_distinct_2 rfl rfl ?_
  refine z_iload_n 1 hG dL_distinct_3 rfl rfl ?_
  refine z_callVX [.int (zI p0)] hG hR hM hd_X3_distinct kw620 kw621 kw622 rfl (zltL hL (by decide)) (zl0 hL.m.c) (by decide) (by decide) (by decide) (by decide) rfl rfl (Nat.le_of_ble_eq_true rfl) dL_distinct_4 (fun E I' hq => ?_) (fun r I' hq => ?_)
  · obtain ⟨hE9, h⟩ := hx E I' hq
    subst hE9
    refine z_catch1 hG hT rfl (by decide) (by decide) kw417 kca3 (fun q => ?_)
    refine z_astore_n hG dL_distinct_12 rfl (by decide) rfl ?_
    refine z_iconst 1 hG dL_distinct_13 ?_
    exact hE _ _ _ _ dL_distinct_14 ⟨1, rfl, by decide, h⟩
  · obtain ⟨v, rfl, hv, h⟩ := hp r I' hq
    show zW G F 1 6 I' [(0, .ref (F.1 0)), (1, .int (zI p0)), (2, .ref (F.1 129))] [.int (zI v), .int (zI 0), .ref (F.1 129)] 7
    refine z_i2l hG dL_distinct_7 hv ?_
    refine z_last hG (zltL hL (by decide)) (zl129 hL) (by decide) (by decide) dL_distinct_8 ?_
    refine z_goto (tgt := 15) hG dL_distinct_9 (by decide) ?_
    refine z_iconst 0 hG dL_distinct_15 ?_
    exact hE _ _ _ _ dL_distinct_16 ⟨0, rfl, by decide, h⟩
abbrev rm_L_isRising : Room := { frames := 8, cells := 1, slots := 6, locals := 128 }
theorem hd_L_isRising : zHeadH yL_isRising cL_isRising 4 3 (some .int) [(0, 16, 19, 25)] := ⟨kw634, kw0, by decide +kernel, by decide +kernel, by decide +kernel⟩
set_option maxRecDepth 100000 in
set_option maxHeartbeats 4000000 in
theorem c_L_isRising {F : zFr} {I : zStore} {p0 : Int} {post : Option Value → zStore → Prop} {px : String → zStore → Prop} {P : Int → zStore → Prop} (hL : zLayL F)
    (hM : ∀ (l : Launch) (D : va_G) (cs : Nat → ClassId), l.stackTraces = false → zMx l yX3_isRising cX3_isRising 6 (some .boolean) rm_X3_isRising D cs F I [.ref (F.1 0), .int (zI p0)] post px)
    (hp : ∀ r I', post r I' → ∃ v : Int, r = some (.int (zI v)) ∧ (v = 0 ∨ v = 1) ∧ P 0 (zup I' 129 0 v)) (hx : ∀ E I', px E I' → (E = "java/lang/IndexOutOfBoundsException" ∧ P 1 I')) :
    ∀ (l : Launch) (D : va_G) (cs : Nat → ClassId), l.stackTraces = false → zMh l yL_isRising cL_isRising 4 (some .int) [(0, 16, 19, 25)] rm_L_isRising D cs F I [.ref (F.1 0), .int (zI p0), .ref (F.1 129)] (fun r I' => ∃ k : Int, r = some (.int (zI k)) ∧ (0 ≤ k ∧ k ≤ 2) ∧ P k I') := by
  intro l D cs hst
  refine zMh.ofI hst (by decide +kernel) (Nat.le_of_ble_eq_true rfl) fun G hG hT hR hE => ?_
  show zW G F 0 0 I [(0, .ref (F.1 0)), (1, .int (zI p0)), (2, .ref (F.1 129))] [] 0
  refine z_aload_n 2 hG dL_isRising_0 rfl rfl ?_
  refine z_iconst 0 hG dL_isRising_1 ?_
  refine z_aload_n 0 hG dL_isRising_2 rfl rfl ?_
  refine z_iload_n 1 hG dL_isRising_3 rfl rfl ?_
  refine z_callVX [.int (zI p0)] hG hR hM hd_X3_isRising kw635 kw636 kw637 rfl (zltL hL (by decide)) (zl0 hL.m.c) (by decide) (by decide) (by decide) (by decide) rfl rfl (Nat.le_of_ble_eq_true rfl) dL_isRising_4 (fun E I' hq => ?_) (fun r I' hq => ?_)
  · obtain ⟨hE9, h⟩ := hx E I' hq
    subst hE9
    refine z_catch1 hG hT rfl (by decide) (by decide) kw417 kca3 (fun q => ?_)
    refine z_astore_n hG dL_isRising_19 rfl (by decide) rfl ?_
    refine z_iconst 1 hG dL_isRising_20 ?_
    exact hE _ _ _ _ dL_isRising_21 ⟨1, rfl, by decide, h⟩
  · obtain ⟨v, rfl, hv, h⟩ := hp r I' hq
    show zW G F 1 6 I' [(0, .ref (F.1 0)), (1, .int (zI p0)), (2, .ref (F.1 129))] [.int (zI v), .int (zI 0), .ref (F.1 129)] 7
    refine z_if_eq (tgt := 14) hG dL_isRising_7 (by decide) (by omega) (fun e => ?_) (fun e => ?_)
    · subst e
      refine z_lconst 0 hG dL_isRising_14 rfl ?_
      refine z_last hG (zltL hL (by decide)) (zl129 hL) (by decide) (by decide) dL_isRising_15 ?_
      refine z_goto (tgt := 22) hG dL_isRising_16 (by decide) ?_
      refine z_iconst 0 hG dL_isRising_22 ?_
      exact hE _ _ _ _ dL_isRising_23 ⟨0, rfl, by decide, h⟩
    · have e1 : v = 1 := by omega
      subst e1
      refine z_lconst 1 hG dL_isRising_10 rfl ?_
      refine z_goto (tgt := 15) hG dL_isRising_11 (by decide) ?_
      refine z_last hG (zltL hL (by decide)) (zl129 hL) (by decide) (by decide) dL_isRising_15 ?_
      refine z_goto (tgt := 22) hG dL_isRising_16 (by decide) ?_
      refine z_iconst 0 hG dL_isRising_22 ?_
      exact hE _ _ _ _ dL_isRising_23 ⟨0, rfl, by decide, h⟩
abbrev rm_L_group : Room := { frames := 7, cells := 1, slots := 6, locals := 174 }
theorem hd_L_group : zHeadH yL_group cL_group 4 3 (some .int) [(0, 9, 12, 13)] := ⟨kw641, kw0, by decide +kernel, by decide +kernel, by decide +kernel⟩
set_option maxRecDepth 100000 in
set_option maxHeartbeats 4000000 in
theorem c_L_group {F : zFr} {I : zStore} {p0 : Int} {post : Option Value → zStore → Prop} {px : String → zStore → Prop} {P : Int → zStore → Prop} (hL : zLayL F)
    (hM : ∀ (l : Launch) (D : va_G) (cs : Nat → ClassId), l.stackTraces = false → zMx l yX3_group cX3_group 4 (some .int) rm_X3_group D cs F I [.ref (F.1 0), .int (zI p0)] post px)
    (hp : ∀ r I', post r I' → ∃ v : Int, r = some (.int (zI v)) ∧ (-2147483648 ≤ v ∧ v < 2147483648) ∧ P 0 (zup I' 129 0 v)) (hx : ∀ E I', px E I' → (E = "java/lang/IllegalArgumentException" ∧ P 1 I')) :
    ∀ (l : Launch) (D : va_G) (cs : Nat → ClassId), l.stackTraces = false → zMh l yL_group cL_group 4 (some .int) [(0, 9, 12, 13)] rm_L_group D cs F I [.ref (F.1 0), .int (zI p0), .ref (F.1 129)] (fun r I' => ∃ k : Int, r = some (.int (zI k)) ∧ (0 ≤ k ∧ k ≤ 2) ∧ P k I') := by
  intro l D cs hst
  refine zMh.ofI hst (by decide +kernel) (Nat.le_of_ble_eq_true rfl) fun G hG hT hR hE => ?_
  show zW G F 0 0 I [(0, .ref (F.1 0)), (1, .int (zI p0)), (2, .ref (F.1 129))] [] 0
  refine z_aload_n 2 hG dL_group_0 rfl rfl ?_
  refine z_iconst 0 hG dL_group_1 ?_
  refine z_aload_n 0 hG dL_group_2 rfl rfl ?_
  refine z_iload_n 1 hG dL_group_3 rfl rfl ?_
  refine z_callVX [.int (zI p0)] hG hR hM hd_X3_group kw642 kw643 kw644 rfl (zltL hL (by decide)) (zl0 hL.m.c) (by decide) (by decide) (by decide) (by decide) rfl rfl (Nat.le_of_ble_eq_true rfl) dL_group_4 (fun E I' hq => ?_) (fun r I' hq => ?_)
  · obtain ⟨hE9, h⟩ := hx E I' hq
    subst hE9
    refine z_catch1 hG hT rfl (by decide) (by decide) kw286 kca1 (fun q => ?_)
    refine z_astore_n hG dL_group_12 rfl (by decide) rfl ?_
    refine z_iconst 1 hG dL_group_13 ?_
    exact hE _ _ _ _ dL_group_14 ⟨1, rfl, by decide, h⟩
  · obtain ⟨v, rfl, hv, h⟩ := hp r I' hq
    show zW G F 1 6 I' [(0, .ref (F.1 0)), (1, .int (zI p0)), (2, .ref (F.1 129))] [.int (zI v), .int (zI 0), .ref (F.1 129)] 7
    refine z_i2l hG dL_group_7 hv ?_
    refine z_last hG (zltL hL (by decide)) (zl129 hL) (by decide) (by decide) dL_group_8 ?_
    refine z_goto (tgt := 15) hG dL_group_9 (by decide) ?_
    refine z_iconst 0 hG dL_group_15 ?_
    exact hE _ _ _ _ dL_group_16 ⟨0, rfl, by decide, h⟩
abbrev rm_L_groupOf : Room := { frames := 8, cells := 2, slots := 12, locals := 124 }
theorem hd_L_groupOf : zHeadH yL_groupOf cL_groupOf 4 3 (some .int) [(0, 9, 12, 15), (0, 9, 15, 25)] := ⟨kw653, kw0, by decide +kernel, by decide +kernel, by decide +kernel⟩
set_option maxRecDepth 100000 in
set_option maxHeartbeats 4000000 in
theorem c_L_groupOf {F : zFr} {I : zStore} {p0 : Int} {post : Option Value → zStore → Prop} {px : String → zStore → Prop} {P : Int → zStore → Prop} (hL : zLayL F)
    (hM : ∀ (l : Launch) (D : va_G) (cs : Nat → ClassId), l.stackTraces = false → zMx l yX3_groupOf cX3_groupOf 2 (some .int) rm_X3_groupOf D cs F I [.ref (F.1 0), .int (zI p0)] post px)
    (hp : ∀ r I', post r I' → ∃ v : Int, r = some (.int (zI v)) ∧ (-2147483648 ≤ v ∧ v < 2147483648) ∧ P 0 (zup I' 129 0 v)) (hx : ∀ E I', px E I' → (E = "java/lang/IllegalStateException" ∧ P 1 I') ∨ (E = "java/lang/IndexOutOfBoundsException" ∧ P 2 I')) :
    ∀ (l : Launch) (D : va_G) (cs : Nat → ClassId), l.stackTraces = false → zMh l yL_groupOf cL_groupOf 4 (some .int) [(0, 9, 12, 15), (0, 9, 15, 25)] rm_L_groupOf D cs F I [.ref (F.1 0), .int (zI p0), .ref (F.1 129)] (fun r I' => ∃ k : Int, r = some (.int (zI k)) ∧ (0 ≤ k ∧ k ≤ 2) ∧ P k I') := by
  intro l D cs hst
  refine zMh.ofI hst (by decide +kernel) (Nat.le_of_ble_eq_true rfl) fun G hG hT hR hE => ?_
  show zW G F 0 0 I [(0, .ref (F.1 0)), (1, .int (zI p0)), (2, .ref (F.1 129))] [] 0
  refine z_aload_n 2 hG dL_groupOf_0 rfl rfl ?_
  refine z_iconst 0 hG dL_groupOf_1 ?_
  refine z_aload_n 0 hG dL_groupOf_2 rfl rfl ?_
  refine z_iload_n 1 hG dL_groupOf_3 rfl rfl ?_
  refine z_callVX [.int (zI p0)] hG hR hM hd_X3_groupOf kw654 kw655 kw656 rfl (zltL hL (by decide)) (zl0 hL.m.c) (by decide) (by decide) (by decide) (by decide) rfl rfl (Nat.le_of_ble_eq_true rfl) dL_groupOf_4 (fun E I' hq => ?_) (fun r I' hq => ?_)
  · rcases hx E I' hq with ⟨hE9, h⟩ | ⟨hE9, h⟩
    · subst hE9
      refine z_catch1 hG hT rfl (by decide) (by decide) kw287 kca2 (fun q => ?_)
      refine z_astore_n hG dL_groupOf_12 rfl (by decide) rfl ?_
      refine z_iconst 1 hG dL_groupOf_13 ?_
      exact hE _ _ _ _ dL_groupOf_14 ⟨1, rfl, by decide, h⟩
    · subst hE9
      refine z_catch2 hG hT rfl (by decide) (by decide) (by decide) kw287 (by decide) kw417 kca3 (fun q => ?_)
      refine z_astore_n hG dL_groupOf_15 rfl (by decide) rfl ?_
      refine z_iconst 2 hG dL_groupOf_16 ?_
      exact hE _ _ _ _ dL_groupOf_17 ⟨2, rfl, by decide, h⟩
  · obtain ⟨v, rfl, hv, h⟩ := hp r I' hq
    show zW G F 2 12 I' [(0, .ref (F.1 0)), (1, .int (zI p0)), (2, .ref (F.1 129))] [.int (zI v), .int (zI 0), .ref (F.1 129)] 7
    refine z_i2l hG dL_groupOf_7 hv ?_
    refine z_last hG (zltL hL (by decide)) (zl129 hL) (by decide) (by decide) dL_groupOf_8 ?_
    refine z_goto (tgt := 18) hG dL_groupOf_9 (by decide) ?_
    refine z_iconst 0 hG dL_groupOf_18 ?_
    exact hE _ _ _ _ dL_groupOf_19 ⟨0, rfl, by decide, h⟩
abbrev rm_L_groupSlots : Room := { frames := 8, cells := 2, slots := 12, locals := 123 }
theorem hd_L_groupSlots : zHeadH yL_groupSlots cL_groupSlots 4 3 (some .int) [(0, 9, 12, 15), (0, 9, 15, 25)] := ⟨kw665, kw0, by decide +kernel, by decide +kernel, by decide +kernel⟩
set_option maxRecDepth 100000 in
set_option maxHeartbeats 4000000 in
theorem c_L_groupSlots {F : zFr} {I : zStore} {p0 : Int} {post : Option Value → zStore → Prop} {px : String → zStore → Prop} {P : Int → zStore → Prop} (hL : zLayL F)
    (hM : ∀ (l : Launch) (D : va_G) (cs : Nat → ClassId), l.stackTraces = false → zMx l yX3_groupSlots cX3_groupSlots 2 (some .int) rm_X3_groupSlots D cs F I [.ref (F.1 0), .int (zI p0)] post px)
    (hp : ∀ r I', post r I' → ∃ v : Int, r = some (.int (zI v)) ∧ (-2147483648 ≤ v ∧ v < 2147483648) ∧ P 0 (zup I' 129 0 v)) (hx : ∀ E I', px E I' → (E = "java/lang/IllegalStateException" ∧ P 1 I') ∨ (E = "java/lang/IndexOutOfBoundsException" ∧ P 2 I')) :
    ∀ (l : Launch) (D : va_G) (cs : Nat → ClassId), l.stackTraces = false → zMh l yL_groupSlots cL_groupSlots 4 (some .int) [(0, 9, 12, 15), (0, 9, 15, 25)] rm_L_groupSlots D cs F I [.ref (F.1 0), .int (zI p0), .ref (F.1 129)] (fun r I' => ∃ k : Int, r = some (.int (zI k)) ∧ (0 ≤ k ∧ k ≤ 2) ∧ P k I') := by
  intro l D cs hst
  refine zMh.ofI hst (by decide +kernel) (Nat.le_of_ble_eq_true rfl) fun G hG hT hR hE => ?_
  show zW G F 0 0 I [(0, .ref (F.1 0)), (1, .int (zI p0)), (2, .ref (F.1 129))] [] 0
  refine z_aload_n 2 hG dL_groupSlots_0 rfl rfl ?_
  refine z_iconst 0 hG dL_groupSlots_1 ?_
  refine z_aload_n 0 hG dL_groupSlots_2 rfl rfl ?_
  refine z_iload_n 1 hG dL_groupSlots_3 rfl rfl ?_
  refine z_callVX [.int (zI p0)] hG hR hM hd_X3_groupSlots kw666 kw667 kw668 rfl (zltL hL (by decide)) (zl0 hL.m.c) (by decide) (by decide) (by decide) (by decide) rfl rfl (Nat.le_of_ble_eq_true rfl) dL_groupSlots_4 (fun E I' hq => ?_) (fun r I' hq => ?_)
  · rcases hx E I' hq with ⟨hE9, h⟩ | ⟨hE9, h⟩
    · subst hE9
      refine z_catch1 hG hT rfl (by decide) (by decide) kw287 kca2 (fun q => ?_)
      refine z_astore_n hG dL_groupSlots_12 rfl (by decide) rfl ?_
      refine z_iconst 1 hG dL_groupSlots_13 ?_
      exact hE _ _ _ _ dL_groupSlots_14 ⟨1, rfl, by decide, h⟩
    · subst hE9
      refine z_catch2 hG hT rfl (by decide) (by decide) (by decide) kw287 (by decide) kw417 kca3 (fun q => ?_)
      refine z_astore_n hG dL_groupSlots_15 rfl (by decide) rfl ?_
      refine z_iconst 2 hG dL_groupSlots_16 ?_
      exact hE _ _ _ _ dL_groupSlots_17 ⟨2, rfl, by decide, h⟩
  · obtain ⟨v, rfl, hv, h⟩ := hp r I' hq
    show zW G F 2 12 I' [(0, .ref (F.1 0)), (1, .int (zI p0)), (2, .ref (F.1 129))] [.int (zI v), .int (zI 0), .ref (F.1 129)] 7
    refine z_i2l hG dL_groupSlots_7 hv ?_
    refine z_last hG (zltL hL (by decide)) (zl129 hL) (by decide) (by decide) dL_groupSlots_8 ?_
    refine z_goto (tgt := 18) hG dL_groupSlots_9 (by decide) ?_
    refine z_iconst 0 hG dL_groupSlots_18 ?_
    exact hE _ _ _ _ dL_groupSlots_19 ⟨0, rfl, by decide, h⟩
