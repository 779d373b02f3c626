abbrev rm_X0_align : Room := { frames := 4, cells := 0, slots := 0, locals := 98 }
set_option maxRecDepth 100000 in
set_option maxHeartbeats 4000000 in
theorem s_X0_align_0 {G : zCx} {F : zFr} {I : zStore} {post : Option Value → zStore → Prop}{b : Nat} {line : Int} {J3 : zStore} {v3 : Int} (hG : zOK G "LineLearner$Aligner" cX0_align 8) (hR : zRoom G rm_X0_align) (hE : zRetI G F cX0_align 0 0 post) (hL : zLay F) (hr : zRg I) (hf_b : zFm F b) (h1 : 0 ≤ line ∧ line < 12)
    (kc3 : ∀ (l : Launch) (D : va_G) (cs : Nat → ClassId), l.stackTraces = false → zMt l yX0_leastCost cX0_leastCost 5 (some .int) rm_X0_leastCost D cs F I [.ref (F.1 10), .ref (F.1 b), .int (zI line)] (fun r I' => r = some (.int (zI v3)) ∧ I' = J3))
    (hrJ3 : zRg J3)
    (hv3 : -2147483648 ≤ v3 ∧ v3 < 2147483648)
    (k4 : zW G F 0 0 (zup J3 10 7 0) [(0, .ref (F.1 10)), (1, .ref (F.1 b)), (2, .int (zI line)), (3, .int (zI v3)), (4, .int (zI (J3 b 0))), (5, .int (zI (J3 4 line))), (6, .int (zI 0))] [] 32) :
    zW G F 0 0 I [(0, .ref (F.1 10)), (1, .ref (F.1 b)), (2, .int (zI line))] [] 0 := by
  have hfb_b := hf_b.1
  refine z_aload_n 0 hG dX0_align_0 rfl rfl ?_
  refine z_aload_n 1 hG dX0_align_1 rfl rfl ?_
  refine z_iload_n 2 hG dX0_align_2 rfl rfl ?_
  refine z_callV [.ref (F.1 b), .int (zI line)] hG hR (kc3 ) hd_X0_leastCost kw496 kw210 kw211 rfl (zlt hL (by decide)) (zl10 hL) (by decide) (by decide) (by decide) (by decide) rfl rfl (Nat.le_of_ble_eq_true rfl) dX0_align_3 (fun r I' hp => ?_)
  rw [hp.1, hp.2]
  show zW G F 0 0 J3 [(0, .ref (F.1 10)), (1, .ref (F.1 b)), (2, .int (zI line))] [.int (zI v3)] 6
  refine z_istore_n (lv' := [(3, .int (zI v3)), (0, .ref (F.1 10)), (1, .ref (F.1 b)), (2, .int (zI line))]) hG dX0_align_6 rfl (by decide) rfl ?_
  refine z_aload_n 2 hG dX0_align_7 rfl rfl ?_
  refine z_getIN (v := J3 b 0) hG zcl1 (zfN0 hf_b) (zf0 hf_b) 0 (by decide) rfl rfl rfl kw119 dX0_align_8 ?_
  refine z_istore (lv' := [(4, .int (zI (J3 b 0))), (3, .int (zI v3)), (0, .ref (F.1 10)), (1, .ref (F.1 b)), (2, .int (zI line))]) hG dX0_align_11 (by decide) rfl ?_
  refine z_aload_n 2 hG dX0_align_13 rfl rfl ?_
  refine z_getR (t := 2) hG zcl0 (zlt hL (by decide)) (zl10 hL) 0 (by decide) rfl kw76 dX0_align_14 ?_
  refine z_getRN (t := 4) hG zcl2 (zlt hL (by decide)) (zl2 hL) 2 (by decide) rfl kw33 dX0_align_17 ?_
  refine z_iload_n 4 hG dX0_align_20 rfl rfl ?_
  refine z_iald (v := J3 4 line) hG (zlt hL (by decide)) (zl4 hL) (by decide) (by omega) rfl dX0_align_21 ?_
  refine z_istore (lv' := [(5, .int (zI (J3 4 line))), (4, .int (zI (J3 b 0))), (3, .int (zI v3)), (0, .ref (F.1 10)), (1, .ref (F.1 b)), (2, .int (zI line))]) hG dX0_align_22 (by decide) rfl ?_
  refine z_iconst 0 hG dX0_align_24 ?_
  refine z_istore (lv' := [(6, .int (zI 0)), (5, .int (zI (J3 4 line))), (4, .int (zI (J3 b 0))), (3, .int (zI v3)), (0, .ref (F.1 10)), (1, .ref (F.1 b)), (2, .int (zI line))]) hG dX0_align_25 (by decide) rfl ?_
  refine z_aload_n 4 hG dX0_align_27 rfl rfl ?_
  refine z_iconst 0 hG dX0_align_28 ?_
  refine z_putI hG zcl0 (zlt hL (by decide)) (zl10 hL) 7 (by decide) (ki := 7) rfl rfl kw86 rfl rfl dX0_align_29 ?_
  refine z_perm (lv' := [(0, .ref (F.1 10)), (1, .ref (F.1 b)), (2, .int (zI line)), (3, .int (zI v3)), (4, .int (zI (J3 b 0))), (5, .int (zI (J3 4 line))), (6, .int (zI 0))]) [4, 5, 6, 3, 2, 1, 0] rfl ?_
  exact k4

set_option maxRecDepth 100000 in
set_option maxHeartbeats 4000000 in
theorem s_X0_align_32 {G : zCx} {F : zFr} {I : zStore} {post : Option Value → zStore → Prop}{b : Nat} {line cost slots tokens count : Int} {v54 : Int} (hG : zOK G "LineLearner$Aligner" cX0_align 8) (hR : zRoom G rm_X0_align) (hE : zRetI G F cX0_align 0 0 post) (hL : zLay F) (hr : zRg I) (hf_b : zFm F b) (h2 : 0 ≤ slots ∧ slots ≤ 40) (h3 : 0 ≤ tokens ∧ tokens ≤ 30) (h4 : 0 ≤ count ∧ count ≤ 70)
    (k1 : (70 ≤ count) → post (some (.int (zI cost))) (zup I 10 6 count))
    (k2 : (count < 70) → ((slots + tokens) ≤ 0) → post (some (.int (zI cost))) (zup I 10 6 count))
    (kc54 : (count < 70) → (0 < (slots + tokens)) → ∀ (l : Launch) (D : va_G) (cs : Nat → ClassId), l.stackTraces = false → zMt l yX0_lastStep cX0_lastStep 8 (some .int) rm_X0_lastStep D cs F I [.ref (F.1 10), .ref (F.1 b), .int (zI line), .int (zI slots), .int (zI tokens)] (fun r I' => r = some (.int (zI v54)) ∧ I' = I))
    (hv54 : -2147483648 ≤ v54 ∧ v54 < 2147483648)
    (k5 : (count < 70) → (0 < (slots + tokens)) → (v54 ≠ 2) → (v54 = 1) → zW G F 0 0 (zup I 12 count v54) [(0, .ref (F.1 10)), (1, .ref (F.1 b)), (2, .int (zI line)), (3, .int (zI cost)), (4, .int (zI (slots + (-1)))), (5, .int (zI tokens)), (6, .int (zI (count + 1)))] [] 32)
    (k6 : (count < 70) → (0 < (slots + tokens)) → (v54 ≠ 2) → (v54 ≠ 1) → zW G F 0 0 (zup I 12 count v54) [(0, .ref (F.1 10)), (1, .ref (F.1 b)), (2, .int (zI line)), (3, .int (zI cost)), (4, .int (zI (slots + (-1)))), (5, .int (zI (tokens + (-1)))), (6, .int (zI (count + 1)))] [] 32)
    (k7 : (count < 70) → (0 < (slots + tokens)) → (v54 = 2) → (v54 = 1) → zW G F 0 0 (zup (zup I 12 count v54) 10 7 ((I 10 7) + 1)) [(0, .ref (F.1 10)), (1, .ref (F.1 b)), (2, .int (zI line)), (3, .int (zI cost)), (4, .int (zI slots)), (5, .int (zI tokens)), (6, .int (zI (count + 1)))] [] 32)
    (k8 : (count < 70) → (0 < (slots + tokens)) → (v54 = 2) → (v54 ≠ 1) → zW G F 0 0 (zup (zup I 12 count v54) 10 7 ((I 10 7) + 1)) [(0, .ref (F.1 10)), (1, .ref (F.1 b)), (2, .int (zI line)), (3, .int (zI cost)), (4, .int (zI slots)), (5, .int (zI (tokens + (-1)))), (6, .int (zI (count + 1)))] [] 32) :
    zW G F 0 0 I [(0, .ref (F.1 10)), (1, .ref (F.1 b)), (2, .int (zI line)), (3, .int (zI cost)), (4, .int (zI slots)), (5, .int (zI tokens)), (6, .int (zI count))] [] 32 := by
  have hfb_b := hf_b.1
  refine z_iload 6 hG dX0_align_32 rfl ?_
  refine z_bipush 70 hG dX0_align_34 (by decide) ?_
  refine z_icmp_ge (tgt := 105) hG dX0_align_36 (by decide) (by omega) (by decide) (fun c36 => ?_) (fun c36 => ?_)
  · skip
    refine z_aload_n 0 hG dX0_align_105 rfl rfl ?_
    refine z_iload 6 hG dX0_align_106 rfl ?_
    refine z_putI hG zcl0 (zlt hL (by decide)) (zl10 hL) 6 (by decide) (ki := 6) rfl rfl kw85 rfl rfl dX0_align_108 ?_
    refine z_iload_n 3 hG dX0_align_111 rfl rfl ?_
    exact hE _ _ _ _ dX0_align_112 (k1 c36)
  · skip
    refine z_iload 4 hG dX0_align_39 rfl ?_
    refine z_iload 5 hG dX0_align_41 rfl ?_
    refine z_iadd hG dX0_align_43 ?_
    refine z_if_le (tgt := 105) hG dX0_align_44 (by decide) (by omega) (fun c44 => ?_) (fun c44 => ?_)
    · skip
      refine z_aload_n 0 hG dX0_align_105 rfl rfl ?_
      refine z_iload 6 hG dX0_align_106 rfl ?_
      refine z_putI hG zcl0 (zlt hL (by decide)) (zl10 hL) 6 (by decide) (ki := 6) rfl rfl kw85 rfl rfl dX0_align_108 ?_
      refine z_iload_n 3 hG dX0_align_111 rfl rfl ?_
      exact hE _ _ _ _ dX0_align_112 (k2 c36 c44)
    · skip
      refine z_aload_n 0 hG dX0_align_47 rfl rfl ?_
      refine z_aload_n 1 hG dX0_align_48 rfl rfl ?_
      refine z_iload_n 2 hG dX0_align_49 rfl rfl ?_
      refine z_iload 4 hG dX0_align_50 rfl ?_
      refine z_iload 5 hG dX0_align_52 rfl ?_
      refine z_callV [.ref (F.1 b), .int (zI line), .int (zI slots), .int (zI tokens)] hG hR (kc54 c36 c44) hd_X0_lastStep kw497 kw499 kp14 rfl (zlt hL (by decide)) (zl10 hL) (by decide) (by decide) (by decide) (by decide) rfl rfl (Nat.le_of_ble_eq_true rfl) dX0_align_54 (fun r I' hp => ?_)
      rw [hp.1, hp.2]
      show zW G F 0 0 I [(0, .ref (F.1 10)), (1, .ref (F.1 b)), (2, .int (zI line)), (3, .int (zI cost)), (4, .int (zI slots)), (5, .int (zI tokens)), (6, .int (zI count))] [.int (zI v54)] 57
      refine z_istore (lv' := [(7, .int (zI v54)), (0, .ref (F.1 10)), (1, .ref (F.1 b)), (2, .int (zI line)), (3, .int (zI cost)), (4, .int (zI slots)), (5, .int (zI tokens)), (6, .int (zI count))]) hG dX0_align_57 (by decide) rfl ?_
      refine z_aload_n 1 hG dX0_align_59 rfl rfl ?_
      refine z_getR (t := 12) hG zcl0 (zlt hL (by decide)) (zl10 hL) 5 (by decide) rfl kw84 dX0_align_60 ?_
      refine z_iload 7 hG dX0_align_63 rfl ?_
      refine z_iload 0 hG dX0_align_65 rfl ?_
      refine z_iast hG (zlt hL (by decide)) (zl12 hL) (by decide) (by omega) dX0_align_67 ?_
      refine z_iinc (lv' := [(6, .int (zI (count + 1))), (7, .int (zI v54)), (0, .ref (F.1 10)), (1, .ref (F.1 b)), (2, .int (zI line)), (3, .int (zI cost)), (4, .int (zI slots)), (5, .int (zI tokens))]) 7 hG dX0_align_68 rfl (by decide) rfl ?_
      refine z_iload 1 hG dX0_align_71 rfl ?_
      refine z_iconst 2 hG dX0_align_73 ?_
      refine z_icmp_ne (tgt := 90) hG dX0_align_74 (by decide) (by omega) (by decide) (fun c74 => ?_) (fun c74 => ?_)
      · skip
        refine z_iinc (lv' := [(4, .int (zI (slots + (-1)))), (6, .int (zI (count + 1))), (7, .int (zI v54)), (0, .ref (F.1 10)), (1, .ref (F.1 b)), (2, .int (zI line)), (3, .int (zI cost)), (5, .int (zI tokens))]) 6 hG dX0_align_90 rfl (by decide) rfl ?_
        refine z_iload 2 hG dX0_align_93 rfl ?_
        refine z_iconst 1 hG dX0_align_95 ?_
        refine z_icmp_eq (tgt := 102) hG dX0_align_96 (by decide) (by omega) (by decide) (fun c96 => ?_) (fun c96 => ?_)
        · skip
          refine z_goto (tgt := 32) hG dX0_align_102 (by decide) ?_
          refine z_perm (lv' := [(0, .ref (F.1 10)), (1, .ref (F.1 b)), (2, .int (zI line)), (3, .int (zI cost)), (4, .int (zI (slots + (-1)))), (5, .int (zI tokens)), (6, .int (zI (count + 1)))]) [3, 4, 5, 6, 0, 7, 1] rfl ?_
          exact k5 c36 c44 c74 c96
        · skip
          refine z_iinc (lv' := [(5, .int (zI (tokens + (-1)))), (4, .int (zI (slots + (-1)))), (6, .int (zI (count + 1))), (7, .int (zI v54)), (0, .ref (F.1 10)), (1, .ref (F.1 b)), (2, .int (zI line)), (3, .int (zI cost))]) 7 hG dX0_align_99 rfl (by decide) rfl ?_
          refine z_goto (tgt := 32) hG dX0_align_102 (by decide) ?_
          refine z_perm (lv' := [(0, .ref (F.1 10)), (1, .ref (F.1 b)), (2, .int (zI line)), (3, .int (zI cost)), (4, .int (zI (slots + (-1)))), (5, .int (zI (tokens + (-1)))), (6, .int (zI (count + 1)))]) [4, 5, 6, 7, 1, 0, 2] rfl ?_
          exact k6 c36 c44 c74 c96
      · skip
        refine z_aload_n 2 hG dX0_align_77 rfl rfl ?_
        refine z_dup hG dX0_align_78 rfl ?_
        refine z_getI (v := I 10 7) hG zcl0 (zlt hL (by decide)) (zl10 hL) 7 (by decide) rfl rfl (zup_k (by decide)) kw86 dX0_align_79 ?_
        refine z_iconst 1 hG dX0_align_82 ?_
        refine z_iadd hG dX0_align_83 ?_
        refine z_putI hG zcl0 (zlt hL (by decide)) (zl10 hL) 7 (by decide) (ki := 7) rfl rfl kw86 rfl rfl dX0_align_84 ?_
        refine z_goto (tgt := 93) hG dX0_align_87 (by decide) ?_
        refine z_iload 1 hG dX0_align_93 rfl ?_
        refine z_iconst 1 hG dX0_align_95 ?_
        refine z_icmp_eq (tgt := 102) hG dX0_align_96 (by decide) (by omega) (by decide) (fun c96 => ?_) (fun c96 => ?_)
        · skip
          refine z_goto (tgt := 32) hG dX0_align_102 (by decide) ?_
          refine z_perm (lv' := [(0, .ref (F.1 10)), (1, .ref (F.1 b)), (2, .int (zI line)), (3, .int (zI cost)), (4, .int (zI slots)), (5, .int (zI tokens)), (6, .int (zI (count + 1)))]) [2, 3, 4, 5, 6, 7, 0] rfl ?_
          exact k7 c36 c44 c74 c96
        · skip
          refine z_iinc (lv' := [(5, .int (zI (tokens + (-1)))), (6, .int (zI (count + 1))), (7, .int (zI v54)), (0, .ref (F.1 10)), (1, .ref (F.1 b)), (2, .int (zI line)), (3, .int (zI cost)), (4, .int (zI slots))]) 7 hG dX0_align_99 rfl (by decide) rfl ?_
          refine z_goto (tgt := 32) hG dX0_align_102 (by decide) ?_
          refine z_perm (lv' := [(0, .ref (F.1 10)), (1, .ref (F.1 b)), (2, .int (zI line)), (3, .int (zI cost)), (4, .int (zI slots)), (5, .int (zI (tokens + (-1)))), (6, .int (zI (count + 1)))]) [3, 4, 5, 6, 7, 0, 1] rfl ?_
          exact k8 c36 c44 c74 c96

def zP_ (I : zStore) (b : Nat) (line : Int) (n m k : Nat) : Nat × Nat := zpos (zs_ I b) (I 10 3) (zq_ I b line) n m k
def zw_ (I : zStore) (b : Nat) (line : Int) (n m k : Nat) : Int := zway (zs_ I b) (I 10 3) (zq_ I b line) n m k
def zst_ (I : zStore) (b : Nat) (line : Int) (i t : Nat) : Int := zstep (zs_ I b) (I 10 3) (zq_ I b line) i t
def zK (I : zStore) (b : Nat) (line : Int) (n m : Nat) : Nat := zlen (zs_ I b) (I 10 3) (zq_ I b line) n m
/-- the store after k steps back of align -/
def zAs (I : zStore) (b : Nat) (line : Int) (n m k : Nat) : zStore := zup (zfl (ztab I 11 m n (zCC I b line)) 12 0 k (zw_ I b line n m)) 10 7 (zfc (zw_ I b line n m) k)
/-- the store after align -/
def zAe (I : zStore) (b : Nat) (line : Int) (n m : Nat) : zStore := zup (zAs I b line n m (zK I b line n m)) 10 6 (zK I b line n m)
section ZAS
variable {I : zStore} {b : Nat} {line : Int} {n m k : Nat}
theorem zAs_o {c : Nat} {j : Int} (h1 : c ≠ 11) (h2 : c ≠ 12) (h3 : c ≠ 10 ∨ j ≠ 7) : zAs I b line n m k c j = I c j := by
  unfold zAs
  have e : zup (zfl (ztab I 11 m n (zCC I b line)) 12 0 k (zw_ I b line n m)) 10 7 (zfc (zw_ I b line n m) k) c j = zfl (ztab I 11 m n (zCC I b line)) 12 0 k (zw_ I b line n m) c j := by
    rcases h3 with h3 | h3
    · exact zup_k h3
    · exact zup_i h3
  rw [e, zfl_k h2, ztab_k h1]
theorem zAs_11 {r t : Nat} {j : Int} (hr : r ≤ n) (ht : t ≤ m) (hm : m ≤ 30) (hj : j = 31 * r + t) : zAs I b line n m k 11 j = zCC I b line r t := by
  unfold zAs
  rw [zup_k (by decide), zfl_k (by decide), ztab_in hr ht hm hj]
theorem zAs_7 : zAs I b line n m k 10 7 = zfc (zw_ I b line n m) k := zup_at _ _ _ _
theorem zAs_s1 {i v : Int} (h : zw_ I b line n m k ≠ 2) (hv : v = zw_ I b line n m k) (hi : i = k) : zup (zAs I b line n m k) 12 i v = zAs I b line n m (k + 1) := by
  unfold zAs
  rw [zup_comm (by decide), zfl_up hv (by omega)]
  simp only [zfc, if_neg h, Int.add_zero]
theorem zAs_s2 {i v : Int} (h : zw_ I b line n m k = 2) (hv : v = zw_ I b line n m k) (hi : i = k) : zup (zup (zAs I b line n m k) 12 i v) 10 7 ((zAs I b line n m k 10 7) + 1) = zAs I b line n m (k + 1) := by
  rw [zAs_7]
  unfold zAs
  rw [zup_comm (k := 10) (k' := 12) (by decide), zup_zup, zfl_up hv (by omega)]
  simp only [zfc, if_pos h]
theorem zw_bd (w : Nat → Int) (hw : ∀ k, w k = 0 ∨ w k = 1 ∨ w k = 2) (k : Nat) : -2147483648 ≤ w k ∧ w k < 2147483648 := by
  have := hw k
  omega
theorem zstep_bd {s : Nat → Int} {f : Int} {q : Nat → Nat → Int} {i t : Nat} : zstep s f q i t = 0 ∨ zstep s f q i t = 1 ∨ zstep s f q i t = 2 := by
  unfold zstep
  split
  · exact Or.inr (Or.inr rfl)
  · split
    · exact Or.inr (Or.inl rfl)
    · split
      · exact Or.inl rfl
      · split
        · exact Or.inr (Or.inl rfl)
        · exact Or.inr (Or.inr rfl)
theorem zRg_As (hA : zAl I b line n m) (hr : zRg I) (hk : k ≤ 1000) : zRg (zAs I b line n m k) := by
  unfold zAs
  refine zRg_up (zRg_fl (zRg_tabCC hA hr hA.2.2.1) fun j _ => zw_bd _ (fun k => zstep_bd) j) ?_
  have := zfc_bd (zw_ I b line n m) k
  omega
theorem zls_eq (hb : 15 ≤ b) (hA : zAl I b line n m) {i t : Nat} (hi : i ≤ n) (ht : t ≤ m) : zls (zAs I b line n m k) b line i t = zst_ I b line i t := by
  have hm := hA.2.2.2.2.1
  unfold zls zst_ zstep
  by_cases h1 : i = 0
  · rw [if_pos h1, if_pos (by omega)]
  rw [if_neg h1, if_neg (by omega)]
  by_cases h2 : t = 0
  · rw [if_pos h2, if_pos (by omega)]
  rw [if_neg h2, if_neg (by omega)]
  have e1 : zAs I b line n m k (b + 1) ((i : Int) - 1) = I (b + 1) ((i - 1 : Nat) : Int) := by
    rw [zAs_o (by omega) (by omega) (Or.inl (by omega))]
    congr 1
    omega
  have e2 : ∀ id p, zpc (zAs I b line n m k) b id p = zpc I b id p := fun id p => by
    unfold zpc
    rw [zAs_o (c := b + 2) (by omega) (by omega) (Or.inl (by omega)), zAs_o (c := b + 3) (by omega) (by omega) (Or.inl (by omega)), zAs_o (c := 6) (by decide) (by decide) (Or.inl (by decide)), zAs_o (c := 9) (by decide) (by decide) (Or.inl (by decide)), zAs_o (c := 10) (by decide) (by decide) (Or.inr (by decide))]
  have e3 : ∀ id, zsk (zAs I b line n m k) b id = zsk I b id := fun id => by
    unfold zsk
    rw [zAs_o (c := b + 6) (by omega) (by omega) (Or.inl (by omega)), zAs_o (c := b) (by omega) (by omega) (Or.inl (by omega)), zAs_o (c := 10) (by decide) (by decide) (Or.inr (by decide))]
  rw [e1, e2, e3]
  have e4 : zpc I b (I (b + 1) ((i - 1 : Nat) : Int)) (line * 30 + ((t : Int) - 1)) = zq_ I b line (i - 1) (t - 1) := by
    unfold zq_
    congr 1
    omega
  have e5 : zsk I b (I (b + 1) ((i - 1 : Nat) : Int)) = zs_ I b (i - 1) := rfl
  rw [e4, e5, zAs_11 (r := i) (t := t) hi ht hm (by omega), zAs_11 (r := i - 1) (t := t - 1) (by omega) (by omega) hm (by omega), zAs_11 (r := i - 1) (t := t) (by omega) ht hm (by omega)]
  rfl
end ZAS
set_option maxHeartbeats 4000000 in
theorem l_X0_align_32 {G : zCx} {F : zFr} {I : zStore} {post : Option Value → zStore → Prop} {b : Nat} {line cost : Int} {n m : Nat} (hG : zOK G "LineLearner$Aligner" cX0_align 8) (hR : zRoom G rm_X0_align) (hE : zRetI G F cX0_align 0 0 post) (hL : zLay F) (hr : zRg I) (hf_b : zFm F b) (hA : zAl I b line n m)
    (hp : post (some (.int (zI cost))) (zAe I b line n m)) :
    ∀ d k : Nat, k + d = zK I b line n m → ∀ i t : Nat, zP_ I b line n m k = (i, t) → zW G F 0 0 (zAs I b line n m k) [(0, .ref (F.1 10)), (1, .ref (F.1 b)), (2, .int (zI line)), (3, .int (zI cost)), (4, .int (zI i)), (5, .int (zI t)), (6, .int (zI k))] [] 32 := by
  have hb := hf_b.1
  have hKle : zK I b line n m ≤ n + m := zlen_le
  have hA' := hA
  obtain ⟨h1, h2, h3, h4, h5, h6, h7, h8, h9⟩ := hA'
  intro d
  induction d with
  | zero =>
    intro k hk i t hit
    have hk1 : k = zK I b line n m := by omega
    subst hk1
    have he : zP_ I b line n m (zK I b line n m) = (0, 0) := zlen_end
    have h0 : i = 0 ∧ t = 0 := by
      rw [he] at hit
      exact ⟨(congrArg Prod.fst hit).symm, (congrArg Prod.snd hit).symm⟩
    obtain ⟨rfl, rfl⟩ := h0
    exact s_X0_align_32 (v54 := 0) hG hR hE hL (zRg_As hA hr (by omega)) hf_b (by decide) (by decide) (by omega) (fun _ => hp) (fun _ _ => hp) (fun _ h => absurd h (by decide)) (by decide) (fun _ h => absurd h (by decide)) (fun _ h => absurd h (by decide)) (fun _ h => absurd h (by decide)) (fun _ h => absurd h (by decide))
  | succ d ih =>
    intro k hk i t hit
    have hkK : k < zK I b line n m := by omega
    have hpos := zlen_pos (s := zs_ I b) (f := I 10 3) (q := zq_ I b line) (n := n) (m := m) (k := k) hkK
    have hle := zpos_le (s := zs_ I b) (f := I 10 3) (q := zq_ I b line) (n := n) (m := m) k (by unfold zK at hkK; omega)
    have hit' : zpos (zs_ I b) (I 10 3) (zq_ I b line) n m k = (i, t) := hit
    rw [hit'] at hpos hle
    dsimp only at hpos hle
    have hnx : zP_ I b line n m (k + 1) = (if zst_ I b line i t = 2 then i else i - 1, if zst_ I b line i t = 1 then t else t - 1) := zpos_s hit'
    have hw : zw_ I b line n m k = zst_ I b line i t := by
      show zstep _ _ _ (zpos (zs_ I b) (I 10 3) (zq_ I b line) n m k).1 (zpos (zs_ I b) (I 10 3) (zq_ I b line) n m k).2 = _
      rw [hit']
      rfl
    obtain ⟨g1, g2, g3, g4⟩ := zstep_2 (s := zs_ I b) (f := I 10 3) (q := zq_ I b line) (i := i) (t := t) hpos
    have g4' : zst_ I b line i t = 0 ∨ zst_ I b line i t = 1 ∨ zst_ I b line i t = 2 := g4
    have hrg := zRg_As (k := k) hA hr (by omega)
    have hc := c_X0_lastStep (F := F) (I := zAs I b line n m k) (b := b) (line := line) (slots := i) (tokens := t) hL hrg hf_b h1 (by omega) (by omega) (by rw [zAs_o (by decide) (by decide) (Or.inr (by decide))]; exact h7) (by rw [zAs_o (by decide) (by decide) (Or.inr (by decide))]; exact h8)
      (fun _ hne => by
        rw [zAs_o (by omega) (by omega) (Or.inl (by omega)), show ((i : Int) - 1) = ((i - 1 : Nat) : Int) by omega]
        exact h6 _ (by omega))
      (fun _ hne hne2 => by
        rw [zAs_11 (r := i - 1) (t := t - 1) (by omega) (by omega) h5 (by omega)]
        have := zCC_bd hA (i - 1) (t - 1)
        omega)
      (fun _ hne hne2 => by
        rw [zAs_11 (r := i - 1) (t := t) (by omega) (by omega) h5 (by omega)]
        have := zCC_bd hA (i - 1) t
        omega)
    rw [zls_eq hb hA (by omega) (by omega)] at hc
    refine s_X0_align_32 (v54 := zst_ I b line i t) hG hR hE hL hrg hf_b (by omega) (by omega) (by omega) (fun h => absurd h (by omega)) (fun _ h => absurd h (by omega)) (fun _ _ => hc) (by omega) (fun _ _ e2 e1 => ?_) (fun _ _ e2 e1 => ?_) (fun _ _ e2 e1 => absurd e1 (by omega)) (fun _ _ e2 e1 => ?_)
    · rw [zAs_s1 (by rw [hw]; exact e2) hw.symm rfl]
      rw [if_neg e2, if_pos e1] at hnx
      have hi := g2 e2
      rw [show (i : Int) + (-1) = ((i - 1 : Nat) : Int) by omega]
      exact ih (k + 1) (by omega) _ _ hnx
    · rw [zAs_s1 (by rw [hw]; exact e2) hw.symm rfl]
      rw [if_neg e2, if_neg e1] at hnx
      have hi := g2 e2
      have ht := g3 e1
      rw [show (i : Int) + (-1) = ((i - 1 : Nat) : Int) by omega, show (t : Int) + (-1) = ((t - 1 : Nat) : Int) by omega]
      exact ih (k + 1) (by omega) _ _ hnx
    · rw [zAs_s2 (by rw [hw]; exact e2) hw.symm rfl]
      rw [if_pos e2, if_neg e1] at hnx
      have ht := g3 e1
      rw [show (t : Int) + (-1) = ((t - 1 : Nat) : Int) by omega]
      exact ih (k + 1) (by omega) _ _ hnx
theorem c_X0_align {F : zFr} {I : zStore} {b : Nat} {line : Int} {n m : Nat} (hL : zLay F) (hr : zRg I) (hf_b : zFm F b) (hA : zAl I b line n m) : ∀ (l : Launch) (D : va_G) (cs : Nat → ClassId), l.stackTraces = false → zMt l yX0_align cX0_align 8 (some .int) rm_X0_align D cs F I [.ref (F.1 10), .ref (F.1 b), .int (zI line)] (fun r I' => r = some (.int (zI (zCC I b line n m))) ∧ I' = zAe I b line n m) := by
  intro l D cs hst
  have hb := hf_b.1
  refine zMt.ofI hst (by decide +kernel) (Nat.le_of_ble_eq_true rfl) fun G hG hR hE => ?_
  have hbd := zCC_bd hA n m
  have h3 := hA.2.2.1
  have h5 := hA.2.2.2.2.1
  refine s_X0_align_0 hG hR hE hL hr hf_b hA.1 (c_X0_leastCost hL hr hf_b hA) (zRg_tabCC hA hr h3) (by omega) ?_
  rw [ztab_k (by omega), ztab_k (by decide), hA.2.1, hA.2.2.2.1]
  have h := l_X0_align_32 (cost := zCC I b line n m) hG hR hE hL hr hf_b hA ⟨rfl, rfl⟩ (zK I b line n m) 0 (by omega) n m rfl
  have e : zAs I b line n m 0 = zup (ztab I 11 m n (zCC I b line)) 10 7 0 := by
    unfold zAs
    rw [zfl_0]
    rfl
  rw [e] at h
  exact h
