theorem zs_66_68 : zSite "java/lang/IllegalStateException" "the buffer would get more than 30 bytes" ["java/lang/RuntimeException", "java/lang/Exception"] 66 68 70 := ⟨by decide +kernel, by decide +kernel, kw365, kw10, by decide +kernel, (show ∀ w ∈ vx_atS "LineLearner" 70 "java/lang/IllegalStateException" ["java/lang/RuntimeException", "java/lang/Exception"], w ∈ lw_tbl ∧ zst w = true by decide +kernel), by decide +kernel⟩
theorem zs_55_57 : zSite "java/lang/IllegalArgumentException" "a byte is not 0 or 32 to 126" ["java/lang/RuntimeException", "java/lang/Exception"] 55 57 59 := ⟨by decide +kernel, by decide +kernel, kw298, kw9, by decide +kernel, (show ∀ w ∈ vx_atS "LineLearner" 59 "java/lang/IllegalArgumentException" ["java/lang/RuntimeException", "java/lang/Exception"], w ∈ lw_tbl ∧ zst w = true by decide +kernel), by decide +kernel⟩
abbrev rm_X3_countBytes : Room := { frames := 1, cells := 0, slots := 0, locals := 22 }
set_option maxRecDepth 100000 in
set_option maxHeartbeats 4000000 in
theorem s_X3_countBytes_0 {G : zCx} {F : zFr} {I : zStore} {post : Option Value → zStore → Prop}{x : Int64} (hG : zOK G "LineLearner" cX3_countBytes 5) (hR : zRoom G rm_X3_countBytes) (hE : zRetI G F cX3_countBytes 0 0 post) (hr : zRg I)
    (k1 : zW G F 0 0 I [(0, .long x), (2, .int (zI 0)), (3, .int (zI 0))] [] 4) :
    zW G F 0 0 I [(0, .long x)] [] 0 := by
  refine z_iconst 0 hG dX3_countBytes_0 ?_
  refine z_istore_n (lv' := [(2, .int (zI 0)), (0, .long x)]) hG dX3_countBytes_1 rfl (by decide) rfl ?_
  refine z_iconst 0 hG dX3_countBytes_2 ?_
  refine z_istore_n (lv' := [(3, .int (zI 0)), (2, .int (zI 0)), (0, .long x)]) hG dX3_countBytes_3 rfl (by decide) rfl ?_
  refine z_perm (lv' := [(0, .long x), (2, .int (zI 0)), (3, .int (zI 0))]) [2, 1, 0] rfl ?_
  exact k1

set_option maxRecDepth 100000 in
set_option maxHeartbeats 4000000 in
theorem s_X3_countBytes_4 {G : zCx} {F : zFr} {I : zStore} {post : Option Value → zStore → Prop}{x : Int64} {n i : Int} (hG : zOK G "LineLearner" cX3_countBytes 5) (hR : zRoom G rm_X3_countBytes) (hE : zRetI G F cX3_countBytes 0 0 post) (hr : zRg I) (h1 : 0 ≤ i ∧ i ≤ 8)
    (k1 : (8 ≤ i) → post (some (.int (zI n))) I)
    (k2 : (i < 8) → ((zby x i) = 0) → zW G F 0 0 I [(0, .long x), (2, .int (zI n)), (3, .int (zI (i + 1)))] [] 4)
    (k3 : (i < 8) → ((zby x i) ≠ 0) → ((zby x i) < 32) → post (some (.int (zI (-1)))) I)
    (k4 : (i < 8) → ((zby x i) ≠ 0) → (32 ≤ (zby x i)) → ((zby x i) ≤ 126) → zW G F 0 0 I [(0, .long x), (2, .int (zI (n + 1))), (3, .int (zI (i + 1)))] [] 4)
    (k5 : (i < 8) → ((zby x i) ≠ 0) → (32 ≤ (zby x i)) → (126 < (zby x i)) → post (some (.int (zI (-1)))) I) :
    zW G F 0 0 I [(0, .long x), (2, .int (zI n)), (3, .int (zI i))] [] 4 := by
  refine z_iload_n 2 hG dX3_countBytes_4 rfl rfl ?_
  refine z_bipush 8 hG dX3_countBytes_5 (by decide) ?_
  refine z_icmp_ge (tgt := 47) hG dX3_countBytes_7 (by decide) (by omega) (by decide) (fun c7 => ?_) (fun c7 => ?_)
  · skip
    refine z_iload_n 1 hG dX3_countBytes_47 rfl rfl ?_
    exact hE _ _ _ _ dX3_countBytes_48 (k1 c7)
  · skip
    refine z_lload_n 0 hG dX3_countBytes_10 rfl rfl ?_
    refine z_iload_n 2 hG dX3_countBytes_11 rfl rfl ?_
    refine z_callS [.long x, .int (zI i)] hG hR (c_X3_byteOf hr (by omega)) hd_X3_byteOf kw295 kw296 (by decide) (by decide) (by decide) (by decide) rfl rfl (Nat.le_of_ble_eq_true rfl) dX3_countBytes_12 (fun r I' hp => ?_)
    rw [hp.1, hp.2]
    have ha12_0 : 0 ≤ (zby x i) ∧ (zby x i) ≤ 255 := zby_bd
    show zW G F 0 0 I [(0, .long x), (2, .int (zI n)), (3, .int (zI i))] [.int (zI (zby x i))] 15
    refine z_istore (lv' := [(4, .int (zI (zby x i))), (0, .long x), (2, .int (zI n)), (3, .int (zI i))]) hG dX3_countBytes_15 (by decide) rfl ?_
    refine z_iload 0 hG dX3_countBytes_17 rfl ?_
    refine z_if_eq (tgt := 41) hG dX3_countBytes_19 (by decide) (by omega) (fun c19 => ?_) (fun c19 => ?_)
    · skip
      refine z_iinc (lv' := [(3, .int (zI (i + 1))), (4, .int (zI (zby x i))), (0, .long x), (2, .int (zI n))]) 3 hG dX3_countBytes_41 rfl (by decide) rfl ?_
      refine z_goto (tgt := 4) hG dX3_countBytes_44 (by decide) ?_
      refine z_perm (lv' := [(0, .long x), (2, .int (zI n)), (3, .int (zI (i + 1)))]) [2, 3, 0] rfl ?_
      exact k2 c7 c19
    · skip
      refine z_iload 0 hG dX3_countBytes_22 rfl ?_
      refine z_bipush 32 hG dX3_countBytes_24 (by decide) ?_
      refine z_icmp_lt (tgt := 36) hG dX3_countBytes_26 (by decide) (by omega) (by decide) (fun c26 => ?_) (fun c26 => ?_)
      · skip
        refine z_iconst (-1) hG dX3_countBytes_36 ?_
        exact hE _ _ _ _ dX3_countBytes_37 (k3 c7 c19 c26)
      · skip
        refine z_iload 0 hG dX3_countBytes_29 rfl ?_
        refine z_bipush 126 hG dX3_countBytes_31 (by decide) ?_
        refine z_icmp_le (tgt := 38) hG dX3_countBytes_33 (by decide) (by omega) (by decide) (fun c33 => ?_) (fun c33 => ?_)
        · skip
          refine z_iinc (lv' := [(2, .int (zI (n + 1))), (4, .int (zI (zby x i))), (0, .long x), (3, .int (zI i))]) 2 hG dX3_countBytes_38 rfl (by decide) rfl ?_
          refine z_iinc (lv' := [(3, .int (zI (i + 1))), (2, .int (zI (n + 1))), (4, .int (zI (zby x i))), (0, .long x)]) 3 hG dX3_countBytes_41 rfl (by decide) rfl ?_
          refine z_goto (tgt := 4) hG dX3_countBytes_44 (by decide) ?_
          refine z_perm (lv' := [(0, .long x), (2, .int (zI (n + 1))), (3, .int (zI (i + 1)))]) [3, 1, 0] rfl ?_
          exact k4 c7 c19 c26 c33
        · skip
          refine z_iconst (-1) hG dX3_countBytes_36 ?_
          exact hE _ _ _ _ dX3_countBytes_37 (k5 c7 c19 c26 c33)

/-- the bytes of x that are no 0, of the first i; -1 if one is bad -/
def zcb (x : Int64) : Nat → Int
  | 0 => 0
  | i + 1 => if zcb x i = (-1) then (-1) else if zby x i = 0 then zcb x i else if 32 ≤ zby x i ∧ zby x i ≤ 126 then zcb x i + 1 else (-1)
theorem zcb_bd (x : Int64) : ∀ i : Nat, -1 ≤ zcb x i ∧ zcb x i ≤ i
  | 0 => by simp only [zcb]; omega
  | i + 1 => by
    have h := zcb_bd x i
    simp only [zcb]
    repeat' split
    all_goals omega
theorem zcb_no {x : Int64} {i : Nat} (h : zcb x i = (-1)) : ∀ d : Nat, zcb x (i + d) = (-1)
  | 0 => h
  | d + 1 => by
    rw [← Nat.add_assoc]
    simp only [zcb]
    rw [if_pos (zcb_no h d)]
set_option maxHeartbeats 4000000 in
theorem c_X3_countBytes {F : zFr} {I : zStore} {x : Int64} (hr : zRg I) : ∀ (l : Launch) (D : va_G) (cs : Nat → ClassId), l.stackTraces = false → zMt l yX3_countBytes cX3_countBytes 5 (some .int) rm_X3_countBytes D cs F I [.long x] (fun r I' => r = some (.int (zI (zcb x 8))) ∧ I' = I) := by
  intro l D cs hst
  refine zMt.ofI hst (by decide +kernel) (Nat.le_of_ble_eq_true rfl) fun G hG hR hE => ?_
  refine s_X3_countBytes_0 hG hR hE hr ?_
  have key : ∀ (d i : Nat), i + d = 8 → zcb x i ≠ (-1) → zW G F 0 0 I [(0, .long x), (2, .int (zI (zcb x i))), (3, .int (zI i))] [] 4 := by
    intro d
    induction d with
    | zero =>
      intro i hi hn
      have e : i = 8 := by omega
      subst e
      exact s_X3_countBytes_4 hG hR hE hr (by omega) (fun _ => ⟨rfl, rfl⟩) (fun h => absurd h (by omega)) (fun h => absurd h (by omega)) (fun h => absurd h (by omega)) (fun h => absurd h (by omega))
    | succ d ih =>
      intro i hi hn
      have h := ih (i + 1) (by omega)
      have hb := zcb_bd x i
      have hs : zcb x (i + 1) = if zcb x i = (-1) then (-1) else if zby x i = 0 then zcb x i else if 32 ≤ zby x i ∧ zby x i ≤ 126 then zcb x i + 1 else (-1) := rfl
      rw [if_neg hn] at hs
      have bad : zcb x (i + 1) = (-1) → some (Value.int (zI (-1))) = some (.int (zI (zcb x 8))) ∧ I = I := fun e => by
        have h8 := zcb_no e d
        rw [show i + 1 + d = 8 by omega] at h8
        exact ⟨by rw [h8], rfl⟩
      refine s_X3_countBytes_4 hG hR hE hr (by omega) (fun e => absurd e (by omega)) (fun _ e => ?_) (fun _ e e2 => ?_) (fun _ e e2 e3 => ?_) (fun _ e e2 e3 => ?_)
      · rw [if_pos e] at hs
        rw [hs] at h
        exact h hn
      · rw [if_neg e, if_neg (fun q => absurd q.1 (by omega))] at hs
        exact bad hs
      · rw [if_neg e, if_pos ⟨e2, e3⟩] at hs
        rw [hs] at h
        exact h (by omega)
      · rw [if_neg e, if_neg (fun q => absurd q.2 (by omega))] at hs
        exact bad hs
  exact key 8 0 (by omega) (show (0 : Int) ≠ (-1) by decide)
theorem z_i2b {G : zCx} {F : zFr} {cells slots : Nat} {I : zStore} {lv : zLv} {st : List Value} {pc : Nat} {own : String} {cc : ByteArray} {nL : Nat} {v : Int} (hG : zOK G own cc nL) (hv : -128 ≤ v ∧ v < 128) (hd : decode cc pc = .ok (.i2b, 1)) (k : zW G F cells slots I lv (.int (zI v) :: st) (pc + 1)) : zW G F cells slots I lv (.int (zI v) :: st) pc := by
  obtain ⟨p, l, e, R, s, m, args, below, meth, c, Q, A, n, D, cs⟩ := G
  intro hc hs H locs ls hP hD hS hl
  exact lv_i2b hG.1 hG.2.1 hd (zI_byte hv.1 hv.2) (k hc hs H locs ls hP hD hS hl)
abbrev rm_X3_feed : Room := { frames := 6, cells := 1, slots := 6, locals := 82 }
set_option maxRecDepth 100000 in
set_option maxHeartbeats 4000000 in
theorem s_X3_feed_0 {G : zCx} {F : zFr} {I : zStore} {post : Option Value → zStore → Prop} {px : String → zStore → Prop}{x : Int64} (hG : zOK G "LineLearner" cX3_feed 6) (hR : zRoom G rm_X3_feed) (hE : zRetI G F cX3_feed 1 6 post) (hT : zThr G F cX3_feed 1 6 px) (hL : zLay F) (hr : zRg I) (hb : 0 ≤ I 0 1 ∧ I 0 1 ≤ 30)
    (k1 : ((zcb x 8) ≠ (-1)) → (((I 0 1) + (zcb x 8)) ≤ 30) → zW G F 0 0 I [(0, .ref (F.1 0)), (1, .long x), (3, .int (zI (zcb x 8))), (4, .int (zI 0))] [] 44)
    (k2 : ((zcb x 8) ≠ (-1)) → (30 < ((I 0 1) + (zcb x 8))) → px "java/lang/IllegalStateException" I)
    (k3 : ((zcb x 8) = (-1)) → px "java/lang/IllegalArgumentException" I) :
    zW G F 0 0 I [(0, .ref (F.1 0)), (1, .long x)] [] 0 := by
  refine z_lload_n 1 hG dX3_feed_0 rfl rfl ?_
  refine z_callS [.long x] hG hR (c_X3_countBytes hr) hd_X3_countBytes kw292 kw293 (by decide) (by decide) (by decide) (by decide) rfl rfl (Nat.le_of_ble_eq_true rfl) dX3_feed_1 (fun r I' hp => ?_)
  rw [hp.1, hp.2]
  have ha1_0 : -1 ≤ (zcb x 8) ∧ (zcb x 8) ≤ 8 := zcb_bd x 8
  show zW G F 0 0 I [(0, .ref (F.1 0)), (1, .long x)] [.int (zI (zcb x 8))] 4
  refine z_istore_n (lv' := [(3, .int (zI (zcb x 8))), (0, .ref (F.1 0)), (1, .long x)]) hG dX3_feed_4 rfl (by decide) rfl ?_
  refine z_iload_n 0 hG dX3_feed_5 rfl rfl ?_
  refine z_iconst (-1) hG dX3_feed_6 ?_
  refine z_icmp_ne (tgt := 20) hG dX3_feed_7 (by decide) (by omega) (by decide) (fun c7 => ?_) (fun c7 => ?_)
  · skip
    refine z_aload_n 1 hG dX3_feed_20 rfl rfl ?_
    refine z_getI (v := I 0 1) hG zcl3 (zlt hL (by decide)) (zl0 hL) 1 (by decide) rfl rfl rfl kw160 dX3_feed_21 ?_
    refine z_iload_n 0 hG dX3_feed_24 rfl rfl ?_
    refine z_iadd hG dX3_feed_25 ?_
    refine z_bipush 30 hG dX3_feed_26 (by decide) ?_
    refine z_icmp_le (tgt := 41) hG dX3_feed_28 (by decide) (by omega) (by decide) (fun c28 => ?_) (fun c28 => ?_)
    · skip
      refine z_iconst 0 hG dX3_feed_41 ?_
      refine z_istore (lv' := [(4, .int (zI 0)), (3, .int (zI (zcb x 8))), (0, .ref (F.1 0)), (1, .long x)]) hG dX3_feed_42 (by decide) rfl ?_
      refine z_perm (lv' := [(0, .ref (F.1 0)), (1, .long x), (3, .int (zI (zcb x 8))), (4, .int (zI 0))]) [2, 3, 1, 0] rfl ?_
      exact k1 c7 c28
    · skip
      exact hT.1 _ _ _ _ _ _ _ _ _ _ _ _ _ zs_66_68 dX3_feed_31 dX3_feed_34 dX3_feed_35 dX3_feed_37 dX3_feed_40 hR (by decide) (Nat.le_of_ble_eq_true rfl) (by decide) (by decide) (by decide) (by decide) (k2 c7 c28)
  · skip
    exact hT.1 _ _ _ _ _ _ _ _ _ _ _ _ _ zs_55_57 dX3_feed_10 dX3_feed_13 dX3_feed_14 dX3_feed_16 dX3_feed_19 hR (by decide) (Nat.le_of_ble_eq_true rfl) (by decide) (by decide) (by decide) (by decide) (k3 c7)

set_option maxRecDepth 100000 in
set_option maxHeartbeats 4000000 in
theorem s_X3_feed_44 {G : zCx} {F : zFr} {I : zStore} {post : Option Value → zStore → Prop} {px : String → zStore → Prop}{x : Int64} {n i : Int} (hG : zOK G "LineLearner" cX3_feed 6) (hR : zRoom G rm_X3_feed) (hE : zRetI G F cX3_feed 1 6 post) (hT : zThr G F cX3_feed 1 6 px) (hL : zLay F) (hr : zRg I) (h1 : 0 ≤ i ∧ i ≤ 8) (hb : 0 ≤ I 0 1 ∧ I 0 1 ≤ 30) (g1 : ∀ _u : Unit, i < 8 → zby x i ≠ 0 → I 0 1 < 30 ∧ zby x i ≤ 126)
    (k1 : (8 ≤ i) → post (some (.int (zI (I 0 1)))) I)
    (k2 : (i < 8) → ((zby x i) = 0) → zW G F 0 0 I [(0, .ref (F.1 0)), (1, .long x), (3, .int (zI n)), (4, .int (zI (i + 1)))] [] 44)
    (k3 : (i < 8) → ((zby x i) ≠ 0) → zW G F 0 0 (zup (zup I 1 (I 0 1) (zby x i)) 0 1 ((I 0 1) + 1)) [(0, .ref (F.1 0)), (1, .long x), (3, .int (zI n)), (4, .int (zI (i + 1)))] [] 44) :
    zW G F 0 0 I [(0, .ref (F.1 0)), (1, .long x), (3, .int (zI n)), (4, .int (zI i))] [] 44 := by
  refine z_iload 3 hG dX3_feed_44 rfl ?_
  refine z_bipush 8 hG dX3_feed_46 (by decide) ?_
  refine z_icmp_ge (tgt := 92) hG dX3_feed_48 (by decide) (by omega) (by decide) (fun c48 => ?_) (fun c48 => ?_)
  · skip
    refine z_aload_n 0 hG dX3_feed_92 rfl rfl ?_
    refine z_getI (v := I 0 1) hG zcl3 (zlt hL (by decide)) (zl0 hL) 1 (by decide) rfl rfl rfl kw160 dX3_feed_93 ?_
    refine z_widen (k := 1) (n := 6) (by decide) (by decide) hR (by decide) (by decide) ?_
    exact hE _ _ _ _ dX3_feed_96 (k1 c48)
  · skip
    refine z_lload_n 1 hG dX3_feed_51 rfl rfl ?_
    refine z_iload 3 hG dX3_feed_52 rfl ?_
    refine z_callS [.long x, .int (zI i)] hG hR (c_X3_byteOf hr (by omega)) hd_X3_byteOf kw295 kw296 (by decide) (by decide) (by decide) (by decide) rfl rfl (Nat.le_of_ble_eq_true rfl) dX3_feed_54 (fun r I' hp => ?_)
    rw [hp.1, hp.2]
    have ha54_0 : 0 ≤ (zby x i) ∧ (zby x i) ≤ 255 := zby_bd
    show zW G F 0 0 I [(0, .ref (F.1 0)), (1, .long x), (3, .int (zI n)), (4, .int (zI i))] [.int (zI (zby x i))] 57
    refine z_istore (lv' := [(5, .int (zI (zby x i))), (0, .ref (F.1 0)), (1, .long x), (3, .int (zI n)), (4, .int (zI i))]) hG dX3_feed_57 (by decide) rfl ?_
    refine z_iload 0 hG dX3_feed_59 rfl ?_
    refine z_if_eq (tgt := 86) hG dX3_feed_61 (by decide) (by omega) (fun c61 => ?_) (fun c61 => ?_)
    · skip
      refine z_iinc (lv' := [(4, .int (zI (i + 1))), (5, .int (zI (zby x i))), (0, .ref (F.1 0)), (1, .long x), (3, .int (zI n))]) 4 hG dX3_feed_86 rfl (by decide) rfl ?_
      refine z_goto (tgt := 44) hG dX3_feed_89 (by decide) ?_
      refine z_perm (lv' := [(0, .ref (F.1 0)), (1, .long x), (3, .int (zI n)), (4, .int (zI (i + 1)))]) [2, 3, 4, 0] rfl ?_
      exact k2 c48 c61
    · skip
      have q9 := g1 () c48 c61
      refine z_aload_n 1 hG dX3_feed_64 rfl rfl ?_
      refine z_getR (t := 1) hG zcl3 (zlt hL (by decide)) (zl0 hL) 0 (by decide) rfl kw159 dX3_feed_65 ?_
      refine z_aload_n 1 hG dX3_feed_68 rfl rfl ?_
      refine z_getI (v := I 0 1) hG zcl3 (zlt hL (by decide)) (zl0 hL) 1 (by decide) rfl rfl rfl kw160 dX3_feed_69 ?_
      refine z_iload 0 hG dX3_feed_72 rfl ?_
      refine z_i2b hG (by omega) dX3_feed_74 ?_
      refine z_bast hG (zlt hL (by decide)) (zl1 hL) (by decide) (by omega) (by omega) dX3_feed_75 ?_
      refine z_aload_n 1 hG dX3_feed_76 rfl rfl ?_
      refine z_dup hG dX3_feed_77 rfl ?_
      refine z_getI (v := I 0 1) hG zcl3 (zlt hL (by decide)) (zl0 hL) 1 (by decide) rfl rfl (zup_k (by decide)) kw160 dX3_feed_78 ?_
      refine z_iconst 1 hG dX3_feed_81 ?_
      refine z_iadd hG dX3_feed_82 ?_
      refine z_putI hG zcl3 (zlt hL (by decide)) (zl0 hL) 1 (by decide) (ki := 1) rfl rfl kw160 rfl rfl dX3_feed_83 ?_
      refine z_iinc (lv' := [(4, .int (zI (i + 1))), (5, .int (zI (zby x i))), (0, .ref (F.1 0)), (1, .long x), (3, .int (zI n))]) 4 hG dX3_feed_86 rfl (by decide) rfl ?_
      refine z_goto (tgt := 44) hG dX3_feed_89 (by decide) ?_
      refine z_perm (lv' := [(0, .ref (F.1 0)), (1, .long x), (3, .int (zI n)), (4, .int (zI (i + 1)))]) [2, 3, 4, 0] rfl ?_
      exact k3 c48 c61

theorem zcb_mono {x : Int64} {i : Nat} : ∀ d : Nat, zcb x (i + d) ≠ (-1) → zcb x i ≤ zcb x (i + d) ∧ zcb x i ≠ (-1)
  | 0, h => ⟨Int.le_refl _, h⟩
  | d + 1, h => by
    have hs : zcb x (i + (d + 1)) = if zcb x (i + d) = (-1) then (-1) else if zby x ((i + d : Nat) : Int) = 0 then zcb x (i + d) else if 32 ≤ zby x ((i + d : Nat) : Int) ∧ zby x ((i + d : Nat) : Int) ≤ 126 then zcb x (i + d) + 1 else (-1) := rfl
    by_cases e : zcb x (i + d) = (-1)
    · rw [if_pos e] at hs
      exact absurd hs h
    · have ih := zcb_mono d e
      rw [if_neg e] at hs
      refine ⟨?_, ih.2⟩
      split at hs
      · omega
      · split at hs
        · omega
        · exact absurd hs h
/-- the store after i bytes were fed -/
def zfd (I : zStore) (x : Int64) : Nat → zStore
  | 0 => I
  | i + 1 => if zby x i = 0 then zfd I x i else zup (zup (zfd I x i) 1 (zfd I x i 0 1) (zby x i)) 0 1 (zfd I x i 0 1 + 1)
theorem zfd_n {I : zStore} {x : Int64} : ∀ i : Nat, zcb x i ≠ (-1) → zfd I x i 0 1 = I 0 1 + zcb x i
  | 0, _ => by simp only [zfd, zcb]; omega
  | i + 1, h => by
    have h1 := (zcb_mono (x := x) (i := i) 1 h).2
    have ih := zfd_n (I := I) i h1
    have hs : zcb x (i + 1) = if zcb x i = (-1) then (-1) else if zby x i = 0 then zcb x i else if 32 ≤ zby x i ∧ zby x i ≤ 126 then zcb x i + 1 else (-1) := rfl
    rw [if_neg h1] at hs
    simp only [zfd]
    by_cases e : zby x i = 0
    · rw [if_pos e] at hs ⊢
      omega
    · rw [if_neg e] at hs ⊢
      rw [zup_at]
      split at hs
      · omega
      · exact absurd hs h
theorem zfd_rg {I : zStore} {x : Int64} (hr : zRg I) (hb : 0 ≤ I 0 1 ∧ I 0 1 ≤ 30) : ∀ i : Nat, i ≤ 8 → zcb x i ≠ (-1) → zRg (zfd I x i)
  | 0, _, _ => hr
  | i + 1, h8, h => by
    have h1 := (zcb_mono (x := x) (i := i) 1 h).2
    have ih := zfd_rg hr hb i (by omega) h1
    have hn := zfd_n (I := I) i h1
    have hb2 := zcb_bd x i
    have hy := zby_bd (x := x) (i := i)
    simp only [zfd]
    split
    · exact ih
    · exact zRg_up (zRg_up ih (by omega)) (by omega)
set_option maxHeartbeats 4000000 in
theorem c_X3_feed {F : zFr} {I : zStore} {x : Int64} (hL : zLay F) (hr : zRg I) (hb : 0 ≤ I 0 1 ∧ I 0 1 ≤ 30) : ∀ (l : Launch) (D : va_G) (cs : Nat → ClassId), l.stackTraces = false → zMx l yX3_feed cX3_feed 6 (some .int) rm_X3_feed D cs F I [.ref (F.1 0), .long x] (fun r I' => (zcb x 8 ≠ (-1) ∧ I 0 1 + zcb x 8 ≤ 30) ∧ r = some (.int (zI (I 0 1 + zcb x 8))) ∧ I' = zfd I x 8) (fun E I' => I' = I ∧ ((E = "java/lang/IllegalArgumentException" ∧ zcb x 8 = (-1)) ∨ (E = "java/lang/IllegalStateException" ∧ zcb x 8 ≠ (-1) ∧ 30 < I 0 1 + zcb x 8))) := by
  intro l D cs hst
  refine zMx.ofI hst (by decide +kernel) rfl (Nat.le_of_ble_eq_true rfl) fun G hG hR hE hT => ?_
  refine s_X3_feed_0 hG hR hE hT hL hr hb (fun e1 e2 => ?_) (fun e1 e2 => ⟨rfl, Or.inr ⟨rfl, e1, e2⟩⟩) (fun e => ⟨rfl, Or.inl ⟨rfl, e⟩⟩)
  have key : ∀ (d i : Nat), i + d = 8 → zW G F 0 0 (zfd I x i) [(0, .ref (F.1 0)), (1, .long x), (3, .int (zI (zcb x 8))), (4, .int (zI i))] [] 44 := by
    intro d
    induction d with
    | zero =>
      intro i hi
      have e : i = 8 := by omega
      subst e
      have hn := zfd_n (I := I) 8 e1
      have hb8 := zcb_bd x 8
      exact s_X3_feed_44 hG hR hE hT hL (zfd_rg hr hb 8 (by omega) e1) (by omega) (by omega) (fun _ h => absurd h (by omega)) (fun _ => ⟨⟨e1, e2⟩, by rw [hn], rfl⟩) (fun h => absurd h (by omega)) (fun h => absurd h (by omega))
    | succ d ih =>
      intro i hi
      have h := ih (i + 1) (by omega)
      have m1 := zcb_mono (x := x) (i := i) (d + 1) (by rw [hi]; exact e1)
      have m2 := zcb_mono (x := x) (i := i + 1) d (by rw [show i + 1 + d = 8 by omega]; exact e1)
      rw [hi] at m1
      rw [show i + 1 + d = 8 by omega] at m2
      have hn := zfd_n (I := I) i m1.2
      have hb2 := zcb_bd x i
      have hs : zcb x (i + 1) = if zcb x i = (-1) then (-1) else if zby x i = 0 then zcb x i else if 32 ≤ zby x i ∧ zby x i ≤ 126 then zcb x i + 1 else (-1) := rfl
      rw [if_neg m1.2] at hs
      have hf : zfd I x (i + 1) = if zby x i = 0 then zfd I x i else zup (zup (zfd I x i) 1 (zfd I x i 0 1) (zby x i)) 0 1 (zfd I x i 0 1 + 1) := rfl
      rw [hf] at h
      refine s_X3_feed_44 hG hR hE hT hL (zfd_rg hr hb i (by omega) m1.2) (by omega) (by omega) (fun _ _ e => ?_) (fun h => absurd h (by omega)) (fun _ e => ?_) (fun _ e => ?_)
      · rw [if_neg e] at hs
        split at hs
        · rename_i q
          exact ⟨by omega, q.2⟩
        · exact absurd hs m2.2
      · rw [if_pos e] at h
        exact h
      · rw [if_neg e] at h
        exact h
  exact key 8 0 (by omega)
