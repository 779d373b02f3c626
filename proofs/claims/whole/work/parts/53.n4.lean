abbrev rm_X4_follow : Room := { frames := 5, cells := 0, slots := 0, locals := 117 }
set_option maxRecDepth 100000 in
set_option maxHeartbeats 4000000 in
theorem s_X4_follow_0 {G : zCx} {F : zFr} {I : zStore} {post : Option Value → zStore → Prop}{f : Int} {line : Int} (hG : zOK G "LineLearnerModel" cX4_follow 6) (hR : zRoom G rm_X4_follow) (hE : zRetV G F cX4_follow 0 0 post) (hL : zLayM F) (hr : zRg I) (hf : 0 ≤ f ∧ f < 13) (hl : 0 ≤ line ∧ line < 12)
    (k1 : zW G F 0 0 (zup I 110 22 0) [(0, .ref (F.1 110)), (1, .int (zI f)), (2, .int (zI line)), (3, .int (zI (I 118 f))), (4, .int (zI (I 114 line)))] [] 20) :
    zW G F 0 0 I [(0, .ref (F.1 110)), (1, .int (zI f)), (2, .int (zI line))] [] 0 := by
  refine z_aload_n 0 hG dX4_follow_0 rfl rfl ?_
  refine z_getR (t := 118) hG zcl4 (zltM hL (by decide)) (zl110 hL) 13 (by decide) rfl kw690 dX4_follow_1 ?_
  refine z_iload_n 1 hG dX4_follow_4 rfl rfl ?_
  refine z_iald (v := I 118 f) hG (zltM hL (by decide)) (zl118 hL) (by decide) (by omega) rfl dX4_follow_5 ?_
  refine z_istore_n (lv' := [(3, .int (zI (I 118 f))), (0, .ref (F.1 110)), (1, .int (zI f)), (2, .int (zI line))]) hG dX4_follow_6 rfl (by decide) rfl ?_
  refine z_aload_n 1 hG dX4_follow_7 rfl rfl ?_
  refine z_getR (t := 114) hG zcl4 (zltM hL (by decide)) (zl110 hL) 6 (by decide) rfl kw683 dX4_follow_8 ?_
  refine z_iload_n 3 hG dX4_follow_11 rfl rfl ?_
  refine z_iald (v := I 114 line) hG (zltM hL (by decide)) (zl114 hL) (by decide) (by omega) rfl dX4_follow_12 ?_
  refine z_istore (lv' := [(4, .int (zI (I 114 line))), (3, .int (zI (I 118 f))), (0, .ref (F.1 110)), (1, .int (zI f)), (2, .int (zI line))]) hG dX4_follow_13 (by decide) rfl ?_
  refine z_aload_n 2 hG dX4_follow_15 rfl rfl ?_
  refine z_iconst 0 hG dX4_follow_16 ?_
  refine z_putI hG zcl4 (zltM hL (by decide)) (zl110 hL) 22 (by decide) (ki := 22) rfl rfl kw699 rfl rfl dX4_follow_17 ?_
  refine z_perm (lv' := [(0, .ref (F.1 110)), (1, .int (zI f)), (2, .int (zI line)), (3, .int (zI (I 118 f))), (4, .int (zI (I 114 line)))]) [2, 3, 4, 1, 0] rfl ?_
  exact k1

set_option maxRecDepth 100000 in
set_option maxHeartbeats 4000000 in
theorem s_X4_follow_20 {G : zCx} {F : zFr} {I : zStore} {post : Option Value → zStore → Prop}{f line slot token : Int} (hG : zOK G "LineLearnerModel" cX4_follow 6) (hR : zRoom G rm_X4_follow) (hE : zRetV G F cX4_follow 0 0 post) (hL : zLayM F) (hr : zRg I) (h3 : 0 ≤ slot ∧ slot ≤ 40) (h4 : 0 ≤ token ∧ token ≤ 30)
    (k1 : ((slot + token) ≤ 0) → post (none) I)
    (k2 : (0 < (slot + token)) → zW G F 0 0 I [(0, .ref (F.1 110)), (1, .int (zI f)), (2, .int (zI line)), (3, .int (zI slot)), (4, .int (zI token)), (5, .int (zI 0))] [] 30) :
    zW G F 0 0 I [(0, .ref (F.1 110)), (1, .int (zI f)), (2, .int (zI line)), (3, .int (zI slot)), (4, .int (zI token))] [] 20 := by
  refine z_iload_n 3 hG dX4_follow_20 rfl rfl ?_
  refine z_iload 4 hG dX4_follow_21 rfl ?_
  refine z_iadd hG dX4_follow_23 ?_
  refine z_if_le (tgt := 115) hG dX4_follow_24 (by decide) (by omega) (fun c24 => ?_) (fun c24 => ?_)
  · skip
    exact hE _ _ _ dX4_follow_115 (k1 c24)
  · skip
    refine z_iconst 0 hG dX4_follow_27 ?_
    refine z_istore (lv' := [(5, .int (zI 0)), (0, .ref (F.1 110)), (1, .int (zI f)), (2, .int (zI line)), (3, .int (zI slot)), (4, .int (zI token))]) hG dX4_follow_28 (by decide) rfl ?_
    refine z_perm (lv' := [(0, .ref (F.1 110)), (1, .int (zI f)), (2, .int (zI line)), (3, .int (zI slot)), (4, .int (zI token)), (5, .int (zI 0))]) [1, 2, 3, 4, 5, 0] rfl ?_
    exact k2 c24

set_option maxRecDepth 100000 in
set_option maxHeartbeats 4000000 in
theorem s_X4_follow_30 {G : zCx} {F : zFr} {I : zStore} {post : Option Value → zStore → Prop}{f line slot token step : Int} {v38 : Int} (hG : zOK G "LineLearnerModel" cX4_follow 6) (hR : zRoom G rm_X4_follow) (hE : zRetV G F cX4_follow 0 0 post) (hL : zLayM F) (hr : zRg I) (h3 : 0 ≤ slot ∧ slot ≤ 40) (h4 : 0 ≤ token ∧ token ≤ 30) (h5 : 0 ≤ step ∧ step ≤ 2) (hk : 0 ≤ I 110 22 ∧ I 110 22 < 70)
    (kc38 : ∀ (l : Launch) (D : va_G) (cs : Nat → ClassId), l.stackTraces = false → zMt l yX4_costOf cX4_costOf 8 (some .int) rm_X4_costOf D cs F I [.ref (F.1 110), .int (zI step), .int (zI f), .int (zI line), .int (zI slot), .int (zI token)] (fun r I' => r = some (.int (zI v38)) ∧ I' = I))
    (hv38 : -2147483648 ≤ v38 ∧ v38 < 2147483648)
    (k3 : (v38 = (I 124 (31 * slot + token))) → (step ≠ 2) → (step ≠ 1) → zW G F 0 0 (zup (zup I 125 (I 110 22) step) 110 22 ((I 110 22) + 1)) [(0, .ref (F.1 110)), (1, .int (zI f)), (2, .int (zI line)), (3, .int (zI (slot - 1))), (4, .int (zI (token - 1)))] [] 20)
    (k4 : (v38 = (I 124 (31 * slot + token))) → (step ≠ 2) → (step = 1) → zW G F 0 0 (zup (zup I 125 (I 110 22) step) 110 22 ((I 110 22) + 1)) [(0, .ref (F.1 110)), (1, .int (zI f)), (2, .int (zI line)), (3, .int (zI (slot - 1))), (4, .int (zI (token - 0)))] [] 20)
    (k5 : (v38 = (I 124 (31 * slot + token))) → (step = 2) → (step ≠ 1) → zW G F 0 0 (zup (zup I 125 (I 110 22) step) 110 22 ((I 110 22) + 1)) [(0, .ref (F.1 110)), (1, .int (zI f)), (2, .int (zI line)), (3, .int (zI (slot - 0))), (4, .int (zI (token - 1)))] [] 20)
    (k6 : (v38 = (I 124 (31 * slot + token))) → (step = 2) → (step = 1) → zW G F 0 0 (zup (zup I 125 (I 110 22) step) 110 22 ((I 110 22) + 1)) [(0, .ref (F.1 110)), (1, .int (zI f)), (2, .int (zI line)), (3, .int (zI (slot - 0))), (4, .int (zI (token - 0)))] [] 20)
    (k7 : (v38 ≠ (I 124 (31 * slot + token))) → zW G F 0 0 I [(0, .ref (F.1 110)), (1, .int (zI f)), (2, .int (zI line)), (3, .int (zI slot)), (4, .int (zI token)), (5, .int (zI (step + 1)))] [] 30) :
    zW G F 0 0 I [(0, .ref (F.1 110)), (1, .int (zI f)), (2, .int (zI line)), (3, .int (zI slot)), (4, .int (zI token)), (5, .int (zI step))] [] 30 := by
  refine z_aload_n 0 hG dX4_follow_30 rfl rfl ?_
  refine z_iload 5 hG dX4_follow_31 rfl ?_
  refine z_iload_n 1 hG dX4_follow_33 rfl rfl ?_
  refine z_iload_n 2 hG dX4_follow_34 rfl rfl ?_
  refine z_iload_n 3 hG dX4_follow_35 rfl rfl ?_
  refine z_iload 4 hG dX4_follow_36 rfl ?_
  refine z_callV [.int (zI step), .int (zI f), .int (zI line), .int (zI slot), .int (zI token)] hG hR (kc38 ) hd_X4_costOf kw826 kw828 kp28 rfl (zltM hL (by decide)) (zl110 hL) (by decide) (by decide) (by decide) (by decide) rfl rfl (Nat.le_of_ble_eq_true rfl) dX4_follow_38 (fun r I' hp => ?_)
  rw [hp.1, hp.2]
  show zW G F 0 0 I [(0, .ref (F.1 110)), (1, .int (zI f)), (2, .int (zI line)), (3, .int (zI slot)), (4, .int (zI token)), (5, .int (zI step))] [.int (zI v38)] 41
  refine z_aload_n 0 hG dX4_follow_41 rfl rfl ?_
  refine z_getR (t := 124) hG zcl4 (zltM hL (by decide)) (zl110 hL) 21 (by decide) rfl kw698 dX4_follow_42 ?_
  refine z_iload_n 3 hG dX4_follow_45 rfl rfl ?_
  refine z_iload 4 hG dX4_follow_46 rfl ?_
  refine z_callS [.int (zI slot), .int (zI token)] hG hR (c_X4_cell hr) hd_X4_cell kw833 kw834 (by decide) (by decide) (by decide) (by decide) rfl rfl (Nat.le_of_ble_eq_true rfl) dX4_follow_48 (fun r I' hp => ?_)
  rw [hp.1, hp.2]
  show zW G F 0 0 I [(0, .ref (F.1 110)), (1, .int (zI f)), (2, .int (zI line)), (3, .int (zI slot)), (4, .int (zI token)), (5, .int (zI step))] [.int (zI (31 * slot + token)), .ref (F.1 124), .int (zI v38)] 51
  refine z_iald (v := I 124 (31 * slot + token)) hG (zltM hL (by decide)) (zl124 hL) (by decide) (by omega) rfl dX4_follow_51 ?_
  refine z_icmp_eq (tgt := 61) hG dX4_follow_52 (by decide) (by omega) (hr _ _) (fun c52 => ?_) (fun c52 => ?_)
  · skip
    refine z_aload_n 0 hG dX4_follow_61 rfl rfl ?_
    refine z_getR (t := 125) hG zcl4 (zltM hL (by decide)) (zl110 hL) 23 (by decide) rfl kw700 dX4_follow_62 ?_
    refine z_aload_n 0 hG dX4_follow_65 rfl rfl ?_
    refine z_getI (v := I 110 22) hG zcl4 (zltM hL (by decide)) (zl110 hL) 22 (by decide) rfl rfl rfl kw699 dX4_follow_66 ?_
    refine z_iload 5 hG dX4_follow_69 rfl ?_
    refine z_iast hG (zltM hL (by decide)) (zl125 hL) (by decide) (by omega) dX4_follow_71 ?_
    refine z_aload_n 0 hG dX4_follow_72 rfl rfl ?_
    refine z_dup hG dX4_follow_73 rfl ?_
    refine z_getI (v := I 110 22) hG zcl4 (zltM hL (by decide)) (zl110 hL) 22 (by decide) rfl rfl (zup_k (by decide)) kw699 dX4_follow_74 ?_
    refine z_iconst 1 hG dX4_follow_77 ?_
    refine z_iadd hG dX4_follow_78 ?_
    refine z_putI hG zcl4 (zltM hL (by decide)) (zl110 hL) 22 (by decide) (ki := 22) rfl rfl kw699 rfl rfl dX4_follow_79 ?_
    refine z_iload_n 3 hG dX4_follow_82 rfl rfl ?_
    refine z_iload 5 hG dX4_follow_83 rfl ?_
    refine z_iconst 2 hG dX4_follow_85 ?_
    refine z_icmp_ne (tgt := 93) hG dX4_follow_86 (by decide) (by omega) (by decide) (fun c86 => ?_) (fun c86 => ?_)
    · skip
      refine z_iconst 1 hG dX4_follow_93 ?_
      refine z_isub hG dX4_follow_94 ?_
      refine z_istore_n (lv' := [(3, .int (zI (slot - 1))), (0, .ref (F.1 110)), (1, .int (zI f)), (2, .int (zI line)), (4, .int (zI token)), (5, .int (zI step))]) hG dX4_follow_95 rfl (by decide) rfl ?_
      refine z_iload 4 hG dX4_follow_96 rfl ?_
      refine z_iload 5 hG dX4_follow_98 rfl ?_
      refine z_iconst 1 hG dX4_follow_100 ?_
      refine z_icmp_ne (tgt := 108) hG dX4_follow_101 (by decide) (by omega) (by decide) (fun c101 => ?_) (fun c101 => ?_)
      · skip
        refine z_iconst 1 hG dX4_follow_108 ?_
        refine z_isub hG dX4_follow_109 ?_
        refine z_istore (lv' := [(4, .int (zI (token - 1))), (3, .int (zI (slot - 1))), (0, .ref (F.1 110)), (1, .int (zI f)), (2, .int (zI line)), (5, .int (zI step))]) hG dX4_follow_110 (by decide) rfl ?_
        refine z_goto (tgt := 20) hG dX4_follow_112 (by decide) ?_
        refine z_perm (lv' := [(0, .ref (F.1 110)), (1, .int (zI f)), (2, .int (zI line)), (3, .int (zI (slot - 1))), (4, .int (zI (token - 1)))]) [2, 3, 4, 1, 0] rfl ?_
        exact k3 c52 c86 c101
      · skip
        refine z_iconst 0 hG dX4_follow_104 ?_
        refine z_goto (tgt := 109) hG dX4_follow_105 (by decide) ?_
        refine z_isub hG dX4_follow_109 ?_
        refine z_istore (lv' := [(4, .int (zI (token - 0))), (3, .int (zI (slot - 1))), (0, .ref (F.1 110)), (1, .int (zI f)), (2, .int (zI line)), (5, .int (zI step))]) hG dX4_follow_110 (by decide) rfl ?_
        refine z_goto (tgt := 20) hG dX4_follow_112 (by decide) ?_
        refine z_perm (lv' := [(0, .ref (F.1 110)), (1, .int (zI f)), (2, .int (zI line)), (3, .int (zI (slot - 1))), (4, .int (zI (token - 0)))]) [2, 3, 4, 1, 0] rfl ?_
        exact k4 c52 c86 c101
    · skip
      refine z_iconst 0 hG dX4_follow_89 ?_
      refine z_goto (tgt := 94) hG dX4_follow_90 (by decide) ?_
      refine z_isub hG dX4_follow_94 ?_
      refine z_istore_n (lv' := [(3, .int (zI (slot - 0))), (0, .ref (F.1 110)), (1, .int (zI f)), (2, .int (zI line)), (4, .int (zI token)), (5, .int (zI step))]) hG dX4_follow_95 rfl (by decide) rfl ?_
      refine z_iload 4 hG dX4_follow_96 rfl ?_
      refine z_iload 5 hG dX4_follow_98 rfl ?_
      refine z_iconst 1 hG dX4_follow_100 ?_
      refine z_icmp_ne (tgt := 108) hG dX4_follow_101 (by decide) (by omega) (by decide) (fun c101 => ?_) (fun c101 => ?_)
      · skip
        refine z_iconst 1 hG dX4_follow_108 ?_
        refine z_isub hG dX4_follow_109 ?_
        refine z_istore (lv' := [(4, .int (zI (token - 1))), (3, .int (zI (slot - 0))), (0, .ref (F.1 110)), (1, .int (zI f)), (2, .int (zI line)), (5, .int (zI step))]) hG dX4_follow_110 (by decide) rfl ?_
        refine z_goto (tgt := 20) hG dX4_follow_112 (by decide) ?_
        refine z_perm (lv' := [(0, .ref (F.1 110)), (1, .int (zI f)), (2, .int (zI line)), (3, .int (zI (slot - 0))), (4, .int (zI (token - 1)))]) [2, 3, 4, 1, 0] rfl ?_
        exact k5 c52 c86 c101
      · skip
        refine z_iconst 0 hG dX4_follow_104 ?_
        refine z_goto (tgt := 109) hG dX4_follow_105 (by decide) ?_
        refine z_isub hG dX4_follow_109 ?_
        refine z_istore (lv' := [(4, .int (zI (token - 0))), (3, .int (zI (slot - 0))), (0, .ref (F.1 110)), (1, .int (zI f)), (2, .int (zI line)), (5, .int (zI step))]) hG dX4_follow_110 (by decide) rfl ?_
        refine z_goto (tgt := 20) hG dX4_follow_112 (by decide) ?_
        refine z_perm (lv' := [(0, .ref (F.1 110)), (1, .int (zI f)), (2, .int (zI line)), (3, .int (zI (slot - 0))), (4, .int (zI (token - 0)))]) [2, 3, 4, 1, 0] rfl ?_
        exact k6 c52 c86 c101
  · skip
    refine z_iinc (lv' := [(5, .int (zI (step + 1))), (0, .ref (F.1 110)), (1, .int (zI f)), (2, .int (zI line)), (3, .int (zI slot)), (4, .int (zI token))]) 5 hG dX4_follow_55 rfl (by decide) rfl ?_
    refine z_goto (tgt := 30) hG dX4_follow_58 (by decide) ?_
    refine z_perm (lv' := [(0, .ref (F.1 110)), (1, .int (zI f)), (2, .int (zI line)), (3, .int (zI slot)), (4, .int (zI token)), (5, .int (zI (step + 1)))]) [1, 2, 3, 4, 5, 0] rfl ?_
    exact k7 c52

/-- the way of the model, its length, and the store behind it -/
def zmw (I : zStore) (f line : Int) (n m k : Nat) : Int := zway (zms I f) (I 110 12) (zmq I f line) n m k
def zmP (I : zStore) (f line : Int) (n m k : Nat) : Nat × Nat := zpos (zms I f) (I 110 12) (zmq I f line) n m k
def zmK (I : zStore) (f line : Int) (n m : Nat) : Nat := zlen (zms I f) (I 110 12) (zmq I f line) n m
def zmF (T I : zStore) (f line : Int) (n m k : Nat) : zStore := zup (zfl T 125 0 k (zmw I f line n m)) 110 22 k
theorem zmF_sm {T I : zStore} {f line : Int} {n m k : Nat} : zSm T (zmF T I f line n m k) := (zSm.rfl.fl (Or.inr (Or.inl rfl))).st
theorem zmF_up {T I : zStore} {f line : Int} {n m k : Nat} {v : Int} (hv : v = zmw I f line n m k) : zup (zup (zmF T I f line n m k) 125 k v) 110 22 (k + 1) = zmF T I f line n m (k + 1) := by
  subst hv
  unfold zmF
  rw [← zfl_up (I := T) (k := 125) (a := 0) (i := (k : Int)) rfl (by omega)]
  funext a b
  by_cases h : a = 110 ∧ b = 22
  · obtain ⟨rfl, rfl⟩ := h
    rw [zup_at, zup_at]
    omega
  · simp only [zup, if_neg h]
theorem zstep_co {I : zStore} {f line : Int} {n m : Nat} (hA : zmA I f line n m) {i t : Nat} (hp : 0 < i + t) {c0 c1 c2 : Int} (h0 : c0 = if i = 0 ∨ t = 0 then (-1) else if zmq I f line (i - 1) (t - 1) = (-1) then (-1) else zmC I f line (i - 1) (t - 1) + zmq I f line (i - 1) (t - 1)) (h1 : c1 = if i = 0 then (-1) else zmC I f line (i - 1) t + zms I f (i - 1)) (h2 : c2 = if t = 0 then (-1) else zmC I f line i (t - 1) + I 110 12) : (zstep (zms I f) (I 110 12) (zmq I f line) i t = 0 ∧ c0 = zmC I f line i t) ∨ (zstep (zms I f) (I 110 12) (zmq I f line) i t = 1 ∧ c0 ≠ zmC I f line i t ∧ c1 = zmC I f line i t) ∨ (zstep (zms I f) (I 110 12) (zmq I f line) i t = 2 ∧ c0 ≠ zmC I f line i t ∧ c1 ≠ zmC I f line i t ∧ c2 = zmC I f line i t) := by
  have hb := zmC_bd hA
  rcases i with _ | i
  · rw [if_pos (Or.inl rfl)] at h0
    rw [if_pos rfl] at h1
    rcases t with _ | t
    · omega
    · rw [if_neg (by omega)] at h2
      have e : zmC I f line 0 (t + 1) = zmC I f line 0 t + I 110 12 := zC_f0
      have h3 : c2 = zmC I f line 0 t + I 110 12 := h2
      have h4 := hb 0 (t + 1)
      refine Or.inr (Or.inr ⟨rfl, by omega, by omega, by omega⟩)
  · rw [if_neg (by omega)] at h1
    have h1 : c1 = zmC I f line i t + zms I f i := h1
    rcases t with _ | t
    · rw [if_pos (Or.inr rfl)] at h0
      have e : zmC I f line (i + 1) 0 = zmC I f line i 0 + zms I f i := rfl
      have h4 := hb (i + 1) 0
      refine Or.inr (Or.inl ⟨rfl, by omega, by omega⟩)
    · rw [if_neg (by omega)] at h0 h2
      have h0 : c0 = if zmq I f line i t = (-1) then (-1) else zmC I f line i t + zmq I f line i t := h0
      have h2 : c2 = zmC I f line (i + 1) t + I 110 12 := h2
      have e : zmC I f line (i + 1) (t + 1) = if zmq I f line i t = (-1) then min (zmC I f line i (t + 1) + zms I f i) (zmC I f line (i + 1) t + I 110 12) else min (min (zmC I f line i (t + 1) + zms I f i) (zmC I f line (i + 1) t + I 110 12)) (zmC I f line i t + zmq I f line i t) := rfl
      have h4 := hb (i + 1) (t + 1)
      have es : zstep (zms I f) (I 110 12) (zmq I f line) (i + 1) (t + 1) = if zmq I f line i t ≠ -1 ∧ zmC I f line (i + 1) (t + 1) = zmC I f line i t + zmq I f line i t then 0 else if zmC I f line (i + 1) (t + 1) = zmC I f line i (t + 1) + zms I f i then 1 else 2 := rfl
      rw [es]
      by_cases hk : zmq I f line i t = (-1)
      · rw [if_pos hk] at h0 e
        rw [if_neg (fun q => q.1 hk)]
        split
        · exact Or.inr (Or.inl ⟨rfl, by omega, by omega⟩)
        · exact Or.inr (Or.inr ⟨rfl, by omega, by omega, by omega⟩)
      · rw [if_neg hk] at h0 e
        by_cases hx : zmC I f line (i + 1) (t + 1) = zmC I f line i t + zmq I f line i t
        · rw [if_pos ⟨hk, hx⟩]
          exact Or.inl ⟨rfl, by omega⟩
        · rw [if_neg (fun q => hx q.2)]
          split
          · exact Or.inr (Or.inl ⟨rfl, by omega, by omega⟩)
          · exact Or.inr (Or.inr ⟨rfl, by omega, by omega, by omega⟩)
set_option maxHeartbeats 8000000 in
theorem c_X4_follow {F : zFr} {I T : zStore} {f line : Int} {n m : Nat} (hL : zLayM F) (hr : zRg T) (hA : zmA I f line n m) (hT : zSm I T) (hC : ∀ i t : Nat, i ≤ n → t ≤ m → T 124 (31 * i + t) = zmC I f line i t) : ∀ (l : Launch) (D : va_G) (cs : Nat → ClassId), l.stackTraces = false → zMt l yX4_follow cX4_follow 6 none rm_X4_follow D cs F T [.ref (F.1 110), .int (zI f), .int (zI line)] (fun r I' => r = none ∧ I' = zmF T I f line n m (zmK I f line n m)) := by
  intro l D cs hst
  refine zMt.ofV hst (by decide +kernel) (Nat.le_of_ble_eq_true rfl) fun G hG hR hE => ?_
  obtain ⟨h1, h2, h3, h4, h5, h6, h7, h8, h9, h10, h11⟩ := id hA
  refine s_X4_follow_0 hG hR hE hL hr h1 h2 ?_
  have b0 : T 118 f = n := by rw [hT.o (c := 118) (by decide) (by decide)]; exact h3.1
  have b1 : T 114 line = m := by rw [hT.o (c := 114) (by decide) (by decide)]; exact h4.1
  rw [b0, b1]
  have hb := zmC_bd hA
  have hK := zlen_le (s := zms I f) (f := I 110 12) (q := zmq I f line) (n := n) (m := m)
  have hKd : zmK I f line n m = zlen (zms I f) (I 110 12) (zmq I f line) n m := rfl
  have wbd : ∀ k : Nat, k < zmK I f line n m → zmw I f line n m k = 0 ∨ zmw I f line n m k = 1 ∨ zmw I f line n m k = 2 := fun k hk => by
    have hp := zlen_pos (s := zms I f) (f := I 110 12) (q := zmq I f line) (n := n) (m := m) (k := k) (by rw [← hKd]; exact hk)
    exact (zstep_2 (s := zms I f) (f := I 110 12) (q := zmq I f line) hp).2.2.2
  have hrF : ∀ k : Nat, k ≤ zmK I f line n m → zRg (zmF T I f line n m k) := fun k hk => by
    refine zRg_up (zRg_fl hr fun x hx => ?_) (by omega)
    have := wbd x (by omega)
    omega
  have key : ∀ (d k : Nat), k + d = zmK I f line n m → zW G F 0 0 (zmF T I f line n m k) [(0, .ref (F.1 110)), (1, .int (zI f)), (2, .int (zI line)), (3, .int (zI (zmP I f line n m k).1)), (4, .int (zI (zmP I f line n m k).2))] [] 20 := by
    intro d
    induction d with
    | zero =>
      intro k hk
      have e : k = zmK I f line n m := by omega
      subst e
      have he := zlen_end (s := zms I f) (f := I 110 12) (q := zmq I f line) (n := n) (m := m)
      have hP : zmP I f line n m (zmK I f line n m) = (0, 0) := he
      rw [hP]
      exact s_X4_follow_20 hG hR hE hL (hrF _ (Nat.le_refl _)) (by decide) (by decide) (fun _ => ⟨rfl, rfl⟩) (fun q => absurd q (by decide))
    | succ d ih =>
      intro k hk
      have hn := ih (k + 1) (by omega)
      have hrk := hrF k (by omega)
      have hs : zSm I (zmF T I f line n m k) := hT.trans zmF_sm
      have hp := zlen_pos (s := zms I f) (f := I 110 12) (q := zmq I f line) (n := n) (m := m) (k := k) (by rw [← hKd]; omega)
      have hle := zpos_le (s := zms I f) (f := I 110 12) (q := zmq I f line) (n := n) (m := m) k (by rw [← hKd]; omega)
      have hP1 : zmP I f line n m (k + 1) = (if zmw I f line n m k = 2 then (zmP I f line n m k).1 else (zmP I f line n m k).1 - 1, if zmw I f line n m k = 1 then (zmP I f line n m k).2 else (zmP I f line n m k).2 - 1) := rfl
      have hw : zmw I f line n m k = zstep (zms I f) (I 110 12) (zmq I f line) (zmP I f line n m k).1 (zmP I f line n m k).2 := rfl
      have hPd : zmP I f line n m k = zpos (zms I f) (I 110 12) (zmq I f line) n m k := rfl
      rw [← hPd] at hp hle
      have hup : ∀ v : Int, v = zmw I f line n m k → zup (zup (zmF T I f line n m k) 125 k v) 110 22 (k + 1) = zmF T I f line n m (k + 1) := fun v hv => zmF_up hv
      have h22 : zmF T I f line n m k 110 22 = k := zup_at _ _ _ _
      have hTab : ∀ i t : Nat, i ≤ n → t ≤ m → zmF T I f line n m k 124 (31 * i + t) = zmC I f line i t := fun i t hi ht => by
        unfold zmF
        rw [zup_k (by decide), zfl_k (by decide)]
        exact hC i t hi ht
      have hz2 := zstep_2 (s := zms I f) (f := I 110 12) (q := zmq I f line) hp
      rw [hP1] at hn
      generalize zmP I f line n m k = P at *
      obtain ⟨i, t⟩ := P
      dsimp only at *
      generalize zmF T I f line n m k = J at *
      have c0 := zco_0 (J := J) (line := line) (f := f) (i := i) (t := t) hs h7.1 (fun q1 q2 => by
        have := hTab (i - 1) (t - 1) (by omega) (by omega)
        rw [← this]; congr 1; omega)
      have c1 := zco_1 (J := J) (line := line) (f := f) (i := i) (t := t) hs (fun q1 => by
        have := hTab (i - 1) t (by omega) (by omega)
        rw [← this]; congr 1; omega)
      have c2 := zco_2 (J := J) (line := line) (f := f) (i := i) (t := t) hs (fun q1 => by
        have := hTab i (t - 1) (by omega) (by omega)
        rw [← this]; congr 1; omega)
      have hst := zstep_co hA hp c0 c1 c2
      have hJA := zmA_s hs hA
      obtain ⟨g1, g2, g3, g4, g5, g6, g7, g8, g9, g10, g11⟩ := hJA
      have cb : ∀ k : Int, (k = 0 ∨ k = 1 ∨ k = 2) → -1 ≤ zco J k f line i t ∧ zco J k f line i t ≤ 2000 := by
        have b1 := hb (i - 1) (t - 1)
        have b2 := hb (i - 1) t
        have b3 := hb i (t - 1)
        have b4 := zmq_bd hA (i - 1) (t - 1)
        have b5 := zms_bd hA (i - 1)
        intro k hk
        rcases hk with rfl | rfl | rfl
        · rw [c0]; repeat' split
          all_goals omega
        · rw [c1]; split <;> omega
        · rw [c2]; split <;> omega
      have cc : ∀ k : Int, (k = 0 ∨ k = 1 ∨ k = 2) → ∀ (l : Launch) (D : va_G) (cs : Nat → ClassId), l.stackTraces = false → zMt l yX4_costOf cX4_costOf 8 (some .int) rm_X4_costOf D cs F J [.ref (F.1 110), .int (zI k), .int (zI f), .int (zI line), .int (zI i), .int (zI t)] (fun r I' => r = some (.int (zI (zco J k f line i t))) ∧ I' = J) := fun k hk =>
        c_X4_costOf hL hrk (by omega) h1 h2 (by omega) (by omega) g5 g6 (fun _ q1 q2 => by
          have := g10 (i - 1) (by omega)
          rw [show 40 * f + ((i : Int) - 1) = 40 * f + ((i - 1 : Nat) : Int) by omega] at q2 ⊢
          exact this q2) (fun _ q1 => by
          have := g11 (t - 1) (by omega)
          rw [show 30 * line + (t : Int) - 1 = 30 * line + ((t - 1 : Nat) : Int) by omega]
          exact this) g7 g8 g9
      have hCit := hTab i t (by omega) (by omega)
      have no : ∀ k : Int, (k = 0 ∨ k = 1) → zco J k f line i t ≠ zmC I f line i t → zW G F 0 0 J [(0, .ref (F.1 110)), (1, .int (zI f)), (2, .int (zI line)), (3, .int (zI i)), (4, .int (zI t)), (5, .int (zI (k + 1)))] [] 30 → zW G F 0 0 J [(0, .ref (F.1 110)), (1, .int (zI f)), (2, .int (zI line)), (3, .int (zI i)), (4, .int (zI t)), (5, .int (zI k))] [] 30 := by
        intro k2 hk2 hne hnx
        have := cb k2 (by omega)
        exact s_X4_follow_30 (v38 := zco J k2 f line i t) hG hR hE hL hrk (by omega) (by omega) (by omega) (by omega) (cc k2 (by omega)) (by omega) (fun q => absurd (q.trans hCit) hne) (fun q => absurd (q.trans hCit) hne) (fun q => absurd (q.trans hCit) hne) (fun q => absurd (q.trans hCit) hne) (fun _ => hnx)
      have yes : ∀ k2 : Int, (k2 = 0 ∨ k2 = 1 ∨ k2 = 2) → zco J k2 f line i t = zmC I f line i t → zmw I f line n m k = k2 → zW G F 0 0 J [(0, .ref (F.1 110)), (1, .int (zI f)), (2, .int (zI line)), (3, .int (zI i)), (4, .int (zI t)), (5, .int (zI k2))] [] 30 := by
        intro k2 hk2 he hwk
        have := cb k2 (by omega)
        rw [← hup k2 hwk.symm] at hn
        rw [← hw, hwk] at hz2
        rw [hwk] at hn
        refine s_X4_follow_30 (v38 := zco J k2 f line i t) hG hR hE hL hrk (by omega) (by omega) (by omega) (by omega) (cc k2 hk2) (by omega) (fun _ q1 q2 => ?_) (fun _ q1 q2 => ?_) (fun _ q1 q2 => ?_) (fun _ q1 q2 => ?_) (fun q => absurd (he.trans hCit.symm) q)
        · rw [if_neg q1, if_neg q2, show ((i - 1 : Nat) : Int) = (i : Int) - 1 by omega, show ((t - 1 : Nat) : Int) = (t : Int) - 1 by omega] at hn
          rw [h22]
          exact hn
        · rw [if_neg q1, if_pos q2, show ((i - 1 : Nat) : Int) = (i : Int) - 1 by omega] at hn
          rw [h22, Int.sub_zero]
          exact hn
        · rw [if_pos q1, if_neg q2, show ((t - 1 : Nat) : Int) = (t : Int) - 1 by omega] at hn
          rw [h22, Int.sub_zero]
          exact hn
        · omega
      refine s_X4_follow_20 hG hR hE hL hrk (by omega) (by omega) (fun q => absurd q (by omega)) (fun _ => ?_)
      rw [← hw] at hst
      rcases hst with ⟨q1, q2⟩ | ⟨q1, q2, q3⟩ | ⟨q1, q2, q3, q4⟩
      · exact yes 0 (by omega) q2 q1
      · exact no 0 (by omega) q2 (yes 1 (by omega) q3 q1)
      · exact no 0 (by omega) q2 (no 1 (by omega) q3 (yes 2 (by omega) q4 q1))
  have e0 : zmF T I f line n m 0 = zup T 110 22 0 := by
    unfold zmF
    rw [zfl_0]
    rfl
  have := key (zmK I f line n m) 0 (by omega)
  rw [e0] at this
  exact this
abbrev rm_X4_freshSteps : Room := { frames := 0, cells := 0, slots := 0, locals := 0 }
set_option maxRecDepth 100000 in
set_option maxHeartbeats 4000000 in
theorem s_X4_freshSteps_0 {G : zCx} {F : zFr} {I : zStore} {post : Option Value → zStore → Prop} (hG : zOK G "LineLearnerModel" cX4_freshSteps 3) (hR : zRoom G rm_X4_freshSteps) (hE : zRetI G F cX4_freshSteps 0 0 post) (hL : zLayM F) (hr : zRg I)
    (k1 : zW G F 0 0 I [(0, .ref (F.1 110)), (1, .int (zI 0)), (2, .int (zI 0))] [] 4) :
    zW G F 0 0 I [(0, .ref (F.1 110))] [] 0 := by
  refine z_iconst 0 hG dX4_freshSteps_0 ?_
  refine z_istore_n (lv' := [(1, .int (zI 0)), (0, .ref (F.1 110))]) hG dX4_freshSteps_1 rfl (by decide) rfl ?_
  refine z_iconst 0 hG dX4_freshSteps_2 ?_
  refine z_istore_n (lv' := [(2, .int (zI 0)), (1, .int (zI 0)), (0, .ref (F.1 110))]) hG dX4_freshSteps_3 rfl (by decide) rfl ?_
  refine z_perm (lv' := [(0, .ref (F.1 110)), (1, .int (zI 0)), (2, .int (zI 0))]) [2, 1, 0] rfl ?_
  exact k1

set_option maxRecDepth 100000 in
set_option maxHeartbeats 4000000 in
theorem s_X4_freshSteps_4 {G : zCx} {F : zFr} {I : zStore} {post : Option Value → zStore → Prop}{n i : Int} (hG : zOK G "LineLearnerModel" cX4_freshSteps 3) (hR : zRoom G rm_X4_freshSteps) (hE : zRetI G F cX4_freshSteps 0 0 post) (hL : zLayM F) (hr : zRg I) (h1 : 0 ≤ i ∧ i ≤ 70) (hk : 0 ≤ I 110 22 ∧ I 110 22 ≤ 70)
    (k1 : ((I 110 22) ≤ i) → post (some (.int (zI n))) I)
    (k2 : (i < (I 110 22)) → ((I 125 i) ≠ 2) → zW G F 0 0 I [(0, .ref (F.1 110)), (1, .int (zI (n + 0))), (2, .int (zI (i + 1)))] [] 4)
    (k3 : (i < (I 110 22)) → ((I 125 i) = 2) → zW G F 0 0 I [(0, .ref (F.1 110)), (1, .int (zI (n + 1))), (2, .int (zI (i + 1)))] [] 4) :
    zW G F 0 0 I [(0, .ref (F.1 110)), (1, .int (zI n)), (2, .int (zI i))] [] 4 := by
  refine z_iload_n 2 hG dX4_freshSteps_4 rfl rfl ?_
  refine z_aload_n 0 hG dX4_freshSteps_5 rfl rfl ?_
  refine z_getI (v := I 110 22) hG zcl4 (zltM hL (by decide)) (zl110 hL) 22 (by decide) rfl rfl rfl kw699 dX4_freshSteps_6 ?_
  refine z_icmp_ge (tgt := 36) hG dX4_freshSteps_9 (by decide) (by omega) (hr _ _) (fun c9 => ?_) (fun c9 => ?_)
  · skip
    refine z_iload_n 1 hG dX4_freshSteps_36 rfl rfl ?_
    exact hE _ _ _ _ dX4_freshSteps_37 (k1 c9)
  · skip
    refine z_iload_n 1 hG dX4_freshSteps_12 rfl rfl ?_
    refine z_aload_n 0 hG dX4_freshSteps_13 rfl rfl ?_
    refine z_getR (t := 125) hG zcl4 (zltM hL (by decide)) (zl110 hL) 23 (by decide) rfl kw700 dX4_freshSteps_14 ?_
    refine z_iload_n 2 hG dX4_freshSteps_17 rfl rfl ?_
    refine z_iald (v := I 125 i) hG (zltM hL (by decide)) (zl125 hL) (by decide) (by omega) rfl dX4_freshSteps_18 ?_
    refine z_iconst 2 hG dX4_freshSteps_19 ?_
    refine z_icmp_ne (tgt := 27) hG dX4_freshSteps_20 (by decide) (hr _ _) (by decide) (fun c20 => ?_) (fun c20 => ?_)
    · skip
      refine z_iconst 0 hG dX4_freshSteps_27 ?_
      refine z_iadd hG dX4_freshSteps_28 ?_
      refine z_istore_n (lv' := [(1, .int (zI (n + 0))), (0, .ref (F.1 110)), (2, .int (zI i))]) hG dX4_freshSteps_29 rfl (by decide) rfl ?_
      refine z_iinc (lv' := [(2, .int (zI (i + 1))), (1, .int (zI (n + 0))), (0, .ref (F.1 110))]) 2 hG dX4_freshSteps_30 rfl (by decide) rfl ?_
      refine z_goto (tgt := 4) hG dX4_freshSteps_33 (by decide) ?_
      refine z_perm (lv' := [(0, .ref (F.1 110)), (1, .int (zI (n + 0))), (2, .int (zI (i + 1)))]) [2, 1, 0] rfl ?_
      exact k2 c9 c20
    · skip
      refine z_iconst 1 hG dX4_freshSteps_23 ?_
      refine z_goto (tgt := 28) hG dX4_freshSteps_24 (by decide) ?_
      refine z_iadd hG dX4_freshSteps_28 ?_
      refine z_istore_n (lv' := [(1, .int (zI (n + 1))), (0, .ref (F.1 110)), (2, .int (zI i))]) hG dX4_freshSteps_29 rfl (by decide) rfl ?_
      refine z_iinc (lv' := [(2, .int (zI (i + 1))), (1, .int (zI (n + 1))), (0, .ref (F.1 110))]) 2 hG dX4_freshSteps_30 rfl (by decide) rfl ?_
      refine z_goto (tgt := 4) hG dX4_freshSteps_33 (by decide) ?_
      refine z_perm (lv' := [(0, .ref (F.1 110)), (1, .int (zI (n + 1))), (2, .int (zI (i + 1)))]) [2, 1, 0] rfl ?_
      exact k3 c9 c20

theorem c_X4_freshSteps {F : zFr} {I : zStore} {K : Nat} {w : Nat → Int} (hL : zLayM F) (hr : zRg I) (hK : I 110 22 = K) (hK2 : K ≤ 70) (hw : ∀ k : Nat, k < K → I 125 k = w k) : ∀ (l : Launch) (D : va_G) (cs : Nat → ClassId), l.stackTraces = false → zMt l yX4_freshSteps cX4_freshSteps 3 (some .int) rm_X4_freshSteps D cs F I [.ref (F.1 110)] (fun r I' => r = some (.int (zI (zfc w K))) ∧ I' = I) := by
  intro l D cs hst
  refine zMt.ofI hst (by decide +kernel) (Nat.le_of_ble_eq_true rfl) fun G hG hR hE => ?_
  refine s_X4_freshSteps_0 hG hR hE hL hr ?_
  have key : ∀ (d k : Nat), k + d = K → zW G F 0 0 I [(0, .ref (F.1 110)), (1, .int (zI (zfc w k))), (2, .int (zI k))] [] 4 := by
    intro d
    induction d with
    | zero =>
      intro k hk
      have e : k = K := by omega
      subst e
      exact s_X4_freshSteps_4 hG hR hE hL hr (by omega) (by omega) (fun _ => ⟨rfl, rfl⟩) (fun q => absurd q (by omega)) (fun q => absurd q (by omega))
    | succ d ih =>
      intro k hk
      have h := ih (k + 1) (by omega)
      simp only [zfc] at h
      have hwk := hw k (by omega)
      refine s_X4_freshSteps_4 hG hR hE hL hr (by omega) (by omega) (fun q => absurd q (by omega)) (fun _ q => ?_) (fun _ q => ?_)
      · rw [if_neg (by omega)] at h
        exact h
      · rw [if_pos (by omega)] at h
        exact h
  exact key K 0 (by omega)
