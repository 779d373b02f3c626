abbrev rm_X0_leastCost : Room := { frames := 3, cells := 0, slots := 0, locals := 74 }
set_option maxRecDepth 100000 in
set_option maxHeartbeats 4000000 in
theorem s_X0_leastCost_0 {G : zCx} {F : zFr} {I : zStore} {post : Option Value → zStore → Prop}{b : Nat} {line : Int} (hG : zOK G "LineLearner$Aligner" cX0_leastCost 5) (hR : zRoom G rm_X0_leastCost) (hE : zRetI G F cX0_leastCost 0 0 post) (hL : zLay F) (hr : zRg I) (hf_b : zFm F b) (h1 : 0 ≤ line ∧ line < 12)
    (k1 : zW G F 0 0 I [(0, .ref (F.1 10)), (1, .ref (F.1 b)), (2, .int (zI line)), (3, .int (zI (I 4 line))), (4, .int (zI 0))] [] 13) :
    zW G F 0 0 I [(0, .ref (F.1 10)), (1, .ref (F.1 b)), (2, .int (zI line))] [] 0 := by
  have hfb_b := hf_b.1
  refine z_aload_n 0 hG dX0_leastCost_0 rfl rfl ?_
  refine z_getR (t := 2) hG zcl0 (zlt hL (by decide)) (zl10 hL) 0 (by decide) rfl kw76 dX0_leastCost_1 ?_
  refine z_getRN (t := 4) hG zcl2 (zlt hL (by decide)) (zl2 hL) 2 (by decide) rfl kw33 dX0_leastCost_4 ?_
  refine z_iload_n 2 hG dX0_leastCost_7 rfl rfl ?_
  refine z_iald (v := I 4 line) hG (zlt hL (by decide)) (zl4 hL) (by decide) (by omega) rfl dX0_leastCost_8 ?_
  refine z_istore_n (lv' := [(3, .int (zI (I 4 line))), (0, .ref (F.1 10)), (1, .ref (F.1 b)), (2, .int (zI line))]) hG dX0_leastCost_9 rfl (by decide) rfl ?_
  refine z_iconst 0 hG dX0_leastCost_10 ?_
  refine z_istore (lv' := [(4, .int (zI 0)), (3, .int (zI (I 4 line))), (0, .ref (F.1 10)), (1, .ref (F.1 b)), (2, .int (zI line))]) hG dX0_leastCost_11 (by decide) rfl ?_
  refine z_perm (lv' := [(0, .ref (F.1 10)), (1, .ref (F.1 b)), (2, .int (zI line)), (3, .int (zI (I 4 line))), (4, .int (zI 0))]) [2, 3, 4, 1, 0] rfl ?_
  exact k1

set_option maxRecDepth 100000 in
set_option maxHeartbeats 4000000 in
theorem s_X0_leastCost_13 {G : zCx} {F : zFr} {I : zStore} {post : Option Value → zStore → Prop}{b : Nat} {line m t : Int} (hG : zOK G "LineLearner$Aligner" cX0_leastCost 5) (hR : zRoom G rm_X0_leastCost) (hE : zRetI G F cX0_leastCost 0 0 post) (hL : zLay F) (hr : zRg I) (hf_b : zFm F b) (h3 : 0 ≤ t ∧ t ≤ m + 1 ∧ m ≤ 30)
    (k1 : (m < t) → zW G F 0 0 I [(0, .ref (F.1 10)), (1, .ref (F.1 b)), (2, .int (zI line)), (3, .int (zI m)), (4, .int (zI 0))] [] 42)
    (k2 : (t ≤ m) → zW G F 0 0 (zup I 11 t (t * (I 10 3))) [(0, .ref (F.1 10)), (1, .ref (F.1 b)), (2, .int (zI line)), (3, .int (zI m)), (4, .int (zI (t + 1)))] [] 13) :
    zW G F 0 0 I [(0, .ref (F.1 10)), (1, .ref (F.1 b)), (2, .int (zI line)), (3, .int (zI m)), (4, .int (zI t))] [] 13 := by
  have hfb_b := hf_b.1
  refine z_iload 4 hG dX0_leastCost_13 rfl ?_
  refine z_iload_n 3 hG dX0_leastCost_15 rfl rfl ?_
  refine z_icmp_gt (tgt := 39) hG dX0_leastCost_16 (by decide) (by omega) (by omega) (fun c16 => ?_) (fun c16 => ?_)
  · skip
    refine z_iconst 0 hG dX0_leastCost_39 ?_
    refine z_istore (lv' := [(4, .int (zI 0)), (0, .ref (F.1 10)), (1, .ref (F.1 b)), (2, .int (zI line)), (3, .int (zI m))]) hG dX0_leastCost_40 (by decide) rfl ?_
    refine z_perm (lv' := [(0, .ref (F.1 10)), (1, .ref (F.1 b)), (2, .int (zI line)), (3, .int (zI m)), (4, .int (zI 0))]) [1, 2, 3, 4, 0] rfl ?_
    exact k1 c16
  · skip
    refine z_aload_n 0 hG dX0_leastCost_19 rfl rfl ?_
    refine z_getR (t := 11) hG zcl0 (zlt hL (by decide)) (zl10 hL) 4 (by decide) rfl kw83 dX0_leastCost_20 ?_
    refine z_iload 4 hG dX0_leastCost_23 rfl ?_
    refine z_iload 4 hG dX0_leastCost_25 rfl ?_
    refine z_aload_n 0 hG dX0_leastCost_27 rfl rfl ?_
    refine z_getI (v := I 10 3) hG zcl0 (zlt hL (by decide)) (zl10 hL) 3 (by decide) rfl rfl rfl kw81 dX0_leastCost_28 ?_
    refine z_imul hG dX0_leastCost_31 ?_
    refine z_iast hG (zlt hL (by decide)) (zl11 hL) (by decide) (by omega) dX0_leastCost_32 ?_
    refine z_iinc (lv' := [(4, .int (zI (t + 1))), (0, .ref (F.1 10)), (1, .ref (F.1 b)), (2, .int (zI line)), (3, .int (zI m))]) 4 hG dX0_leastCost_33 rfl (by decide) rfl ?_
    refine z_goto (tgt := 13) hG dX0_leastCost_36 (by decide) ?_
    refine z_perm (lv' := [(0, .ref (F.1 10)), (1, .ref (F.1 b)), (2, .int (zI line)), (3, .int (zI m)), (4, .int (zI (t + 1)))]) [1, 2, 3, 4, 0] rfl ?_
    exact k2 c16

set_option maxRecDepth 100000 in
set_option maxHeartbeats 4000000 in
theorem s_X0_leastCost_42 {G : zCx} {F : zFr} {I : zStore} {post : Option Value → zStore → Prop}{b : Nat} {line m t : Int} {J56 : zStore} (hG : zOK G "LineLearner$Aligner" cX0_leastCost 5) (hR : zRoom G rm_X0_leastCost) (hE : zRetI G F cX0_leastCost 0 0 post) (hL : zLay F) (hr : zRg I) (hf_b : zFm F b) (h3 : 0 ≤ t ∧ t ≤ I b 0 ∧ 0 ≤ m ∧ m ≤ 30) (h4 : 0 ≤ I b 0 ∧ I b 0 ≤ 40)
    (k1 : ((I b 0) ≤ t) → post (some (.int (zI (I 11 (((I b 0) * 31) + m))))) I)
    (kc56 : (t < (I b 0)) → ∀ (l : Launch) (D : va_G) (cs : Nat → ClassId), l.stackTraces = false → zMt l yX0_fillRow cX0_fillRow 12 none rm_X0_fillRow D cs F I [.ref (F.1 10), .ref (F.1 b), .int (zI t), .int (zI line)] (fun r I' => r = none ∧ I' = J56))
    (hrJ56 : zRg J56)
    (k4 : (t < (I b 0)) → zW G F 0 0 J56 [(0, .ref (F.1 10)), (1, .ref (F.1 b)), (2, .int (zI line)), (3, .int (zI m)), (4, .int (zI (t + 1)))] [] 42) :
    zW G F 0 0 I [(0, .ref (F.1 10)), (1, .ref (F.1 b)), (2, .int (zI line)), (3, .int (zI m)), (4, .int (zI t))] [] 42 := by
  have hfb_b := hf_b.1
  refine z_iload 4 hG dX0_leastCost_42 rfl ?_
  refine z_aload_n 1 hG dX0_leastCost_44 rfl rfl ?_
  refine z_getIN (v := I b 0) hG zcl1 (zfN0 hf_b) (zf0 hf_b) 0 (by decide) rfl rfl rfl kw119 dX0_leastCost_45 ?_
  refine z_icmp_ge (tgt := 65) hG dX0_leastCost_48 (by decide) (by omega) (hr _ _) (fun c48 => ?_) (fun c48 => ?_)
  · skip
    refine z_aload_n 0 hG dX0_leastCost_65 rfl rfl ?_
    refine z_getR (t := 11) hG zcl0 (zlt hL (by decide)) (zl10 hL) 4 (by decide) rfl kw83 dX0_leastCost_66 ?_
    refine z_aload_n 1 hG dX0_leastCost_69 rfl rfl ?_
    refine z_getIN (v := I b 0) hG zcl1 (zfN0 hf_b) (zf0 hf_b) 0 (by decide) rfl rfl rfl kw119 dX0_leastCost_70 ?_
    refine z_bipush 31 hG dX0_leastCost_73 (by decide) ?_
    refine z_imul hG dX0_leastCost_75 ?_
    refine z_iload_n 3 hG dX0_leastCost_76 rfl rfl ?_
    refine z_iadd hG dX0_leastCost_77 ?_
    refine z_iald (v := I 11 (((I b 0) * 31) + m)) hG (zlt hL (by decide)) (zl11 hL) (by decide) (by omega) rfl dX0_leastCost_78 ?_
    exact hE _ _ _ _ dX0_leastCost_79 (k1 c48)
  · skip
    refine z_aload_n 0 hG dX0_leastCost_51 rfl rfl ?_
    refine z_aload_n 1 hG dX0_leastCost_52 rfl rfl ?_
    refine z_iload 4 hG dX0_leastCost_53 rfl ?_
    refine z_iload_n 2 hG dX0_leastCost_55 rfl rfl ?_
    refine z_callV [.ref (F.1 b), .int (zI t), .int (zI line)] hG hR (kc56 c48) hd_X0_fillRow kw213 kw215 kp0 rfl (zlt hL (by decide)) (zl10 hL) (by decide) (by decide) (by decide) (by decide) rfl rfl (Nat.le_of_ble_eq_true rfl) dX0_leastCost_56 (fun r I' hp => ?_)
    rw [hp.1, hp.2]
    show zW G F 0 0 J56 [(0, .ref (F.1 10)), (1, .ref (F.1 b)), (2, .int (zI line)), (3, .int (zI m)), (4, .int (zI t))] [] 59
    refine z_iinc (lv' := [(4, .int (zI (t + 1))), (0, .ref (F.1 10)), (1, .ref (F.1 b)), (2, .int (zI line)), (3, .int (zI m))]) 4 hG dX0_leastCost_59 rfl (by decide) rfl ?_
    refine z_goto (tgt := 42) hG dX0_leastCost_62 (by decide) ?_
    refine z_perm (lv' := [(0, .ref (F.1 10)), (1, .ref (F.1 b)), (2, .int (zI line)), (3, .int (zI m)), (4, .int (zI (t + 1)))]) [1, 2, 3, 4, 0] rfl ?_
    exact k4 c48

/-- what an alignment of the line with the format at b stands on: n slots, m tokens -/
def zAl (I : zStore) (b : Nat) (line : Int) (n m : Nat) : Prop := (0 ≤ line ∧ line < 12) ∧ I b 0 = n ∧ n ≤ 40 ∧ I 4 line = m ∧ m ≤ 30 ∧ (∀ i : Nat, i < n → 0 ≤ I (b + 1) i ∧ I (b + 1) i < 40) ∧ (0 ≤ I 10 1 ∧ I 10 1 ≤ 20) ∧ (0 ≤ I 10 2 ∧ I 10 2 ≤ 20) ∧ (0 ≤ I 10 3 ∧ I 10 3 ≤ 20)
def zs_ (I : zStore) (b : Nat) : Nat → Int := fun i => zsk I b (I (b + 1) i)
def zq_ (I : zStore) (b : Nat) (line : Int) : Nat → Nat → Int := fun i t => zpc I b (I (b + 1) i) (line * 30 + t)
def zCC (I : zStore) (b : Nat) (line : Int) : Nat → Nat → Int := zC (zs_ I b) (I 10 3) (zq_ I b line)
theorem zCC_bd {I : zStore} {b : Nat} {line : Int} {n m : Nat} (h : zAl I b line n m) (i t : Nat) : 0 ≤ zCC I b line i t ∧ zCC I b line i t ≤ 20 * i + 20 * t := by
  obtain ⟨h1, h2, h3, h4, h5, h6, h7, h8, h9⟩ := h
  exact zC_bd (fun i => zsk_bd h8) h9 (fun i t => (zpc_bd h7).1) i t
theorem zRg_tabCC {I : zStore} {b k : Nat} {line : Int} {n m i : Nat} (h : zAl I b line n m) (hr : zRg I) (hi : i ≤ 40) : zRg (ztab I k m i (zCC I b line)) :=
  zRg_tab hr fun r t hr2 ht => by
    have h1 := zCC_bd h r t
    have h2 := h.2.2.2.2.1
    omega
set_option maxHeartbeats 4000000 in
theorem l_X0_leastCost_13 {G : zCx} {F : zFr} {I : zStore} {post : Option Value → zStore → Prop} {b : Nat} {line : Int} {n m : Nat} (hG : zOK G "LineLearner$Aligner" cX0_leastCost 5) (hR : zRoom G rm_X0_leastCost) (hE : zRetI G F cX0_leastCost 0 0 post) (hL : zLay F) (hr : zRg I) (hf_b : zFm F b) (hA : zAl I b line n m)
    (k : zW G F 0 0 (ztab I 11 m 0 (zCC I b line)) [(0, .ref (F.1 10)), (1, .ref (F.1 b)), (2, .int (zI line)), (3, .int (zI m)), (4, .int (zI 0))] [] 42) :
    ∀ d t : Nat, t + d = m + 1 → zW G F 0 0 (zfl I 11 0 t (zCC I b line 0)) [(0, .ref (F.1 10)), (1, .ref (F.1 b)), (2, .int (zI line)), (3, .int (zI m)), (4, .int (zI t))] [] 13 := by
  have hb := hf_b.1
  have hm := hA.2.2.2.2.1
  have hrg : ∀ t : Nat, t ≤ m + 1 → zRg (zfl I 11 0 t (zCC I b line 0)) := fun t ht => zRg_fl hr fun k hk => by
    have := zCC_bd hA 0 k
    omega
  intro d
  induction d with
  | zero =>
    intro t ht
    have ht1 : t = m + 1 := by omega
    subst ht1
    refine s_X0_leastCost_13 hG hR hE hL (hrg _ (by omega)) hf_b (by omega) (fun _ => ?_) (fun h => absurd h (by omega))
    rw [ztab_0 hm]
    exact k
  | succ d ih =>
    intro t ht
    refine s_X0_leastCost_13 hG hR hE hL (hrg _ (by omega)) hf_b (by omega) (fun h => absurd h (by omega)) (fun _ => ?_)
    rw [zfl_up (by rw [zfl_k (by decide)]; rfl) (by omega)]
    exact ih (t + 1) (by omega)
set_option maxHeartbeats 4000000 in
theorem l_X0_leastCost_42 {G : zCx} {F : zFr} {I : zStore} {post : Option Value → zStore → Prop} {b : Nat} {line : Int} {n m : Nat} (hG : zOK G "LineLearner$Aligner" cX0_leastCost 5) (hR : zRoom G rm_X0_leastCost) (hE : zRetI G F cX0_leastCost 0 0 post) (hL : zLay F) (hr : zRg I) (hf_b : zFm F b) (hA : zAl I b line n m)
    (hp : post (some (.int (zI (zCC I b line n m)))) (ztab I 11 m n (zCC I b line))) :
    ∀ d i : Nat, i + d = n → zW G F 0 0 (ztab I 11 m i (zCC I b line)) [(0, .ref (F.1 10)), (1, .ref (F.1 b)), (2, .int (zI line)), (3, .int (zI m)), (4, .int (zI i))] [] 42 := by
  have hb := hf_b.1
  have hA' := hA
  obtain ⟨h1, h2, h3, h4, h5, h6, h7, h8, h9⟩ := hA'
  have ho : ∀ (i c : Nat) (j : Int), c ≠ 11 → ztab I 11 m i (zCC I b line) c j = I c j := fun i c j h => ztab_k h
  intro d
  induction d with
  | zero =>
    intro i hi
    have hi1 : i = n := by omega
    subst hi1
    refine s_X0_leastCost_42 (J56 := I) hG hR hE hL (zRg_tabCC hA hr (by omega)) hf_b (by rw [ho _ b 0 (by omega)]; omega) (by rw [ho _ b 0 (by omega)]; omega) (fun _ => ?_) (fun h => absurd h (by rw [ho _ b 0 (by omega)]; omega)) hr (fun h => absurd h (by rw [ho _ b 0 (by omega)]; omega))
    rw [ho _ b 0 (by omega), ztab_in (r := i) (t := m) (by omega) (by omega) (by omega) (by omega)]
    exact hp
  | succ d ih =>
    intro i hi
    have hrg := zRg_tabCC (k := 11) (i := i) hA hr (by omega)
    refine s_X0_leastCost_42 (J56 := ztab I 11 m (i + 1) (zCC I b line)) hG hR hE hL hrg hf_b (by rw [ho _ b 0 (by omega)]; omega) (by rw [ho _ b 0 (by omega)]; omega) (fun h => absurd h (by rw [ho _ b 0 (by omega)]; omega)) (fun _ => ?_) (zRg_tabCC hA hr (by omega)) (fun _ => ih (i + 1) (by omega))
    have hc := c_X0_fillRow (I := ztab I 11 m i (zCC I b line)) (slot := i) (line := line) (id := I (b + 1) i) (m := m) (P := zCC I b line i) hL hrg hf_b h1 (by omega) (ho _ _ _ (by omega)) (h6 i (by omega)) h5 (by rw [ho _ _ _ (by decide)]; exact h4) (by rw [ho _ _ _ (by decide)]; exact h7) (by rw [ho _ _ _ (by decide)]; exact h8) (by rw [ho _ _ _ (by decide)]; exact h9) (fun t ht => ztab_in (by omega) ht h5 (by omega)) (fun t => by have := zCC_bd hA i t; omega)
    have e : zfl (ztab I 11 m i (zCC I b line)) 11 ((i : Int) * 31 + 31) (m + 1) (zrow (zCC I b line i) (zsk (ztab I 11 m i (zCC I b line)) b (I (b + 1) i)) (ztab I 11 m i (zCC I b line) 10 3) (fun t => zpc (ztab I 11 m i (zCC I b line)) b (I (b + 1) i) (line * 30 + t))) = ztab I 11 m (i + 1) (zCC I b line) := by
      rw [← ztab_s (i := i) h5 (a := (i : Int) * 31 + 31) (by omega)]
      rw [zsk_c (ho i) (by omega) (by omega) (by decide), ho _ _ _ (by decide)]
      have hz : (fun t : Nat => zpc (ztab I 11 m i (zCC I b line)) b (I (b + 1) i) (line * 30 + t)) = zq_ I b line i := funext fun t => zpc_c (ho i) (by omega) (by omega) (by decide) (by decide) (by decide)
      rw [hz]
      rfl
    rw [e] at hc
    exact hc
theorem c_X0_leastCost {F : zFr} {I : zStore} {b : Nat} {line : Int} {n m : Nat} (hL : zLay F) (hr : zRg I) (hf_b : zFm F b) (hA : zAl I b line n m) : ∀ (l : Launch) (D : va_G) (cs : Nat → ClassId), l.stackTraces = false → zMt l yX0_leastCost cX0_leastCost 5 (some .int) rm_X0_leastCost D cs F I [.ref (F.1 10), .ref (F.1 b), .int (zI line)] (fun r I' => r = some (.int (zI (zCC I b line n m))) ∧ I' = ztab I 11 m n (zCC I b line)) := by
  intro l D cs hst
  refine zMt.ofI hst (by decide +kernel) (Nat.le_of_ble_eq_true rfl) fun G hG hR hE => ?_
  refine s_X0_leastCost_0 hG hR hE hL hr hf_b hA.1 ?_
  rw [hA.2.2.2.1]
  have h := l_X0_leastCost_13 hG hR hE hL hr hf_b hA (l_X0_leastCost_42 hG hR hE hL hr hf_b hA ⟨rfl, rfl⟩ n 0 (by omega)) (m + 1) 0 (by omega)
  rw [zfl_0] at h
  exact h
