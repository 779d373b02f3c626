theorem zm_X3_212 : zMath "LineLearner" 212 Lib.Math.max.name Lib.Math.max.code := ⟨kw247, kw248, kw12, kw249⟩
/-! the static table -/
def zPT (i : Int) : Int := zPer i.toNat
def zTt (G : zCx) (t : Nat) : Prop := match G with
  | (p, l, e, R, s, m, args, below, meth, c, Q, A, n, D, cs) => va_T .int t 4 (fun j => .int (zI (zPer j))) A s s.heap
section ZT
variable {G : zCx} {F : zFr} {cells slots : Nat} {I : zStore} {lv lv' : zLv} {st : List Value} {pc : Nat} {own : String} {cc : ByteArray} {nL : Nat} {index : Nat}
theorem z_gets (hG : zOK G own cc nL) (hlink : zWd (.fieldLink own index "LineLearner" "BITS_A_BYTE" "[I")) (hd : decode cc pc = .ok (.getstatic index, 3)) (kk : ∀ t : Nat, zTt G t → zW G F cells slots I lv (.ref t :: st) (pc + 3)) : zW G F cells slots I lv st pc := by
  obtain ⟨p, l, e, R, s, m, args, below, meth, c, Q, A, nn, D, cs⟩ := G
  intro hc hs H locs ls hP hD hS hl
  obtain ⟨g1, g2, g3, g4, g5, g6, g7, g8, g9, g10, g11⟩ := hG
  obtain ⟨t, t1, t2⟩ := g8.2.2
  exact va_gets g1 g2 t1 hS g3 (g7.at hlink _) (fun _ h => h) hd (kk t t2 hc hs H locs ls hP hD hS hl)
theorem z_tld {i : Int} {t : Nat} (hG : zOK G own cc nL) (hT : zTt G t) (hi : 0 ≤ i ∧ i < 4) (hd : decode cc pc = .ok (.iaload, 1)) (kk : zW G F cells slots I lv (.int (zI (zPT i)) :: st) (pc + 1)) : zW G F cells slots I lv (.int (zI i) :: .ref t :: st) pc := by
  obtain ⟨p, l, e, R, s, m, args, below, meth, c, Q, A, nn, D, cs⟩ := G
  intro hc hs H locs ls hP hD hS hl
  obtain ⟨g1, g2, g3, g4, g5, g6, g7, g8, g9, g10, g11⟩ := hG
  have hw := kk hc hs H locs ls hP hD hS hl
  have hc1 := zI_clamp hi.1 (by omega)
  refine va_ti (v := .int (zI (zPT i))) g1 g2 hT hS (zI_in (n := 4) hi.1 hi.2 (by decide)) ?_ hd hw
  rw [show (zI i).toNatClampNeg = i.toNat by omega]
  rfl
end ZT
abbrev rm_X3_bitsOfVarying : Room := { frames := 1, cells := 0, slots := 0, locals := 21 }
set_option maxRecDepth 100000 in
set_option maxHeartbeats 4000000 in
theorem s_X3_bitsOfVarying_0 {G : zCx} {F : zFr} {I : zStore} {post : Option Value → zStore → Prop}{line : Int} (hG : zOK G "LineLearner" cX3_bitsOfVarying 6) (hR : zRoom G rm_X3_bitsOfVarying) (hE : zRetI G F cX3_bitsOfVarying 0 0 post) (hL : zLay F) (hr : zRg I) (h2 : 0 ≤ line ∧ line < 12)
    (k1 : zW G F 0 0 I [(0, .ref (F.1 0)), (1, .int (zI line)), (2, .int (zI 0)), (3, .int (zI (I 4 line))), (4, .int (zI 0))] [] 15) :
    zW G F 0 0 I [(0, .ref (F.1 0)), (1, .int (zI line))] [] 0 := by
  refine z_iconst 0 hG dX3_bitsOfVarying_0 ?_
  refine z_istore_n (lv' := [(2, .int (zI 0)), (0, .ref (F.1 0)), (1, .int (zI line))]) hG dX3_bitsOfVarying_1 rfl (by decide) rfl ?_
  refine z_aload_n 1 hG dX3_bitsOfVarying_2 rfl rfl ?_
  refine z_getR (t := 2) hG zcl3 (zlt hL (by decide)) (zl0 hL) 2 (by decide) rfl kw161 dX3_bitsOfVarying_3 ?_
  refine z_getRN (t := 4) hG zcl2 (zlt hL (by decide)) (zl2 hL) 2 (by decide) rfl kw34 dX3_bitsOfVarying_6 ?_
  refine z_iload_n 2 hG dX3_bitsOfVarying_9 rfl rfl ?_
  refine z_iald (v := I 4 line) hG (zlt hL (by decide)) (zl4 hL) (by decide) (by omega) rfl dX3_bitsOfVarying_10 ?_
  refine z_istore_n (lv' := [(3, .int (zI (I 4 line))), (2, .int (zI 0)), (0, .ref (F.1 0)), (1, .int (zI line))]) hG dX3_bitsOfVarying_11 rfl (by decide) rfl ?_
  refine z_iconst 0 hG dX3_bitsOfVarying_12 ?_
  refine z_istore (lv' := [(4, .int (zI 0)), (3, .int (zI (I 4 line))), (2, .int (zI 0)), (0, .ref (F.1 0)), (1, .int (zI line))]) hG dX3_bitsOfVarying_13 (by decide) rfl ?_
  refine z_perm (lv' := [(0, .ref (F.1 0)), (1, .int (zI line)), (2, .int (zI 0)), (3, .int (zI (I 4 line))), (4, .int (zI 0))]) [3, 4, 2, 1, 0] rfl ?_
  exact k1

set_option maxRecDepth 100000 in
set_option maxHeartbeats 4000000 in
theorem s_X3_bitsOfVarying_15 {G : zCx} {F : zFr} {I : zStore} {post : Option Value → zStore → Prop}{line sum tk t : Int} (hG : zOK G "LineLearner" cX3_bitsOfVarying 6) (hR : zRoom G rm_X3_bitsOfVarying) (hE : zRetI G F cX3_bitsOfVarying 0 0 post) (hL : zLay F) (hr : zRg I) (h1 : 0 ≤ t ∧ t ≤ tk ∧ tk ≤ 30) (h2 : 0 ≤ line ∧ line < 12) (g1 : ∀ _u : Unit, t < tk → (0 ≤ I 23 (line * 30 + t) ∧ I 23 (line * 30 + t) < 40) ∧ 0 ≤ I 6 (line * 30 + t) ∧ I 6 (line * 30 + t) < 4)
    (k1 : (tk ≤ t) → post (some (.int (zI sum))) I)
    (k2 : (t < tk) → ((I 18 (I 23 ((line * 30) + t))) ≠ (-1)) → zW G F 0 0 I [(0, .ref (F.1 0)), (1, .int (zI line)), (2, .int (zI sum)), (3, .int (zI tk)), (4, .int (zI (t + 1)))] [] 15)
    (k3 : (t < tk) → ((I 18 (I 23 ((line * 30) + t))) = (-1)) → zW G F 0 0 I [(0, .ref (F.1 0)), (1, .int (zI line)), (2, .int (zI (sum + (1 + ((zPT (I 6 ((line * 30) + t))) * (I 8 ((line * 30) + t))))))), (3, .int (zI tk)), (4, .int (zI (t + 1)))] [] 15) :
    zW G F 0 0 I [(0, .ref (F.1 0)), (1, .int (zI line)), (2, .int (zI sum)), (3, .int (zI tk)), (4, .int (zI t))] [] 15 := by
  refine z_iload 4 hG dX3_bitsOfVarying_15 rfl ?_
  refine z_iload_n 3 hG dX3_bitsOfVarying_17 rfl rfl ?_
  refine z_icmp_ge (tgt := 84) hG dX3_bitsOfVarying_18 (by decide) (by omega) (by omega) (fun c18 => ?_) (fun c18 => ?_)
  · skip
    refine z_iload_n 2 hG dX3_bitsOfVarying_84 rfl rfl ?_
    exact hE _ _ _ _ dX3_bitsOfVarying_85 (k1 c18)
  · skip
    have q9 := g1 () c18
    refine z_iload_n 1 hG dX3_bitsOfVarying_21 rfl rfl ?_
    refine z_iload 4 hG dX3_bitsOfVarying_22 rfl ?_
    refine z_callS [.int (zI line), .int (zI t)] hG hR (c_X3_placeOf hr) hd_X3_placeOf kw255 kw229 (by decide) (by decide) (by decide) (by decide) rfl rfl (Nat.le_of_ble_eq_true rfl) dX3_bitsOfVarying_24 (fun r I' hp => ?_)
    rw [hp.1, hp.2]
    show zW G F 0 0 I [(0, .ref (F.1 0)), (1, .int (zI line)), (2, .int (zI sum)), (3, .int (zI tk)), (4, .int (zI t))] [.int (zI ((line * 30) + t))] 27
    refine z_istore (lv' := [(5, .int (zI ((line * 30) + t))), (0, .ref (F.1 0)), (1, .int (zI line)), (2, .int (zI sum)), (3, .int (zI tk)), (4, .int (zI t))]) hG dX3_bitsOfVarying_27 (by decide) rfl ?_
    refine z_aload_n 1 hG dX3_bitsOfVarying_29 rfl rfl ?_
    refine z_getR (t := 15) hG zcl3 (zlt hL (by decide)) (zl0 hL) 4 (by decide) rfl kw163 dX3_bitsOfVarying_30 ?_
    refine z_getRN (t := 18) hG zcl1 (zlt hL (by decide)) (zl15 hL) 4 (by decide) rfl kw132 dX3_bitsOfVarying_33 ?_
    refine z_aload_n 1 hG dX3_bitsOfVarying_36 rfl rfl ?_
    refine z_getR (t := 23) hG zcl3 (zlt hL (by decide)) (zl0 hL) 6 (by decide) rfl kw165 dX3_bitsOfVarying_37 ?_
    refine z_iload 0 hG dX3_bitsOfVarying_40 rfl ?_
    refine z_iald (v := I 23 ((line * 30) + t)) hG (zlt hL (by decide)) (zl23 hL) (by decide) (by omega) rfl dX3_bitsOfVarying_42 ?_
    refine z_iald (v := I 18 (I 23 ((line * 30) + t))) hG (zlt hL (by decide)) (zl18 hL) (by decide) (by omega) rfl dX3_bitsOfVarying_43 ?_
    refine z_iconst (-1) hG dX3_bitsOfVarying_44 ?_
    refine z_icmp_ne (tgt := 78) hG dX3_bitsOfVarying_45 (by decide) (hr _ _) (by decide) (fun c45 => ?_) (fun c45 => ?_)
    · skip
      refine z_iinc (lv' := [(4, .int (zI (t + 1))), (5, .int (zI ((line * 30) + t))), (0, .ref (F.1 0)), (1, .int (zI line)), (2, .int (zI sum)), (3, .int (zI tk))]) 5 hG dX3_bitsOfVarying_78 rfl (by decide) rfl ?_
      refine z_goto (tgt := 15) hG dX3_bitsOfVarying_81 (by decide) ?_
      refine z_perm (lv' := [(0, .ref (F.1 0)), (1, .int (zI line)), (2, .int (zI sum)), (3, .int (zI tk)), (4, .int (zI (t + 1)))]) [2, 3, 4, 5, 0] rfl ?_
      exact k2 c18 c45
    · skip
      refine z_iload_n 3 hG dX3_bitsOfVarying_48 rfl rfl ?_
      refine z_iconst 1 hG dX3_bitsOfVarying_49 ?_
      refine z_gets hG kw256 dX3_bitsOfVarying_50 fun t50 ht50 => ?_
      refine z_aload_n 1 hG dX3_bitsOfVarying_53 rfl rfl ?_
      refine z_getR (t := 2) hG zcl3 (zlt hL (by decide)) (zl0 hL) 2 (by decide) rfl kw161 dX3_bitsOfVarying_54 ?_
      refine z_getRN (t := 6) hG zcl2 (zlt hL (by decide)) (zl2 hL) 4 (by decide) rfl kw40 dX3_bitsOfVarying_57 ?_
      refine z_iload 0 hG dX3_bitsOfVarying_60 rfl ?_
      refine z_iald (v := I 6 ((line * 30) + t)) hG (zlt hL (by decide)) (zl6 hL) (by decide) (by omega) rfl dX3_bitsOfVarying_62 ?_
      refine z_tld hG ht50 (by omega) dX3_bitsOfVarying_63 ?_
      refine z_aload_n 1 hG dX3_bitsOfVarying_64 rfl rfl ?_
      refine z_getR (t := 2) hG zcl3 (zlt hL (by decide)) (zl0 hL) 2 (by decide) rfl kw161 dX3_bitsOfVarying_65 ?_
      refine z_getRN (t := 8) hG zcl2 (zlt hL (by decide)) (zl2 hL) 6 (by decide) rfl kw46 dX3_bitsOfVarying_68 ?_
      refine z_iload 0 hG dX3_bitsOfVarying_71 rfl ?_
      refine z_iald (v := I 8 ((line * 30) + t)) hG (zlt hL (by decide)) (zl8 hL) (by decide) (by omega) rfl dX3_bitsOfVarying_73 ?_
      refine z_imul hG dX3_bitsOfVarying_74 ?_
      refine z_iadd hG dX3_bitsOfVarying_75 ?_
      refine z_iadd hG dX3_bitsOfVarying_76 ?_
      refine z_istore_n (lv' := [(2, .int (zI (sum + (1 + ((zPT (I 6 ((line * 30) + t))) * (I 8 ((line * 30) + t))))))), (5, .int (zI ((line * 30) + t))), (0, .ref (F.1 0)), (1, .int (zI line)), (3, .int (zI tk)), (4, .int (zI t))]) hG dX3_bitsOfVarying_77 rfl (by decide) rfl ?_
      refine z_iinc (lv' := [(4, .int (zI (t + 1))), (2, .int (zI (sum + (1 + ((zPT (I 6 ((line * 30) + t))) * (I 8 ((line * 30) + t))))))), (5, .int (zI ((line * 30) + t))), (0, .ref (F.1 0)), (1, .int (zI line)), (3, .int (zI tk))]) 5 hG dX3_bitsOfVarying_78 rfl (by decide) rfl ?_
      refine z_goto (tgt := 15) hG dX3_bitsOfVarying_81 (by decide) ?_
      refine z_perm (lv' := [(0, .ref (F.1 0)), (1, .int (zI line)), (2, .int (zI (sum + (1 + ((zPT (I 6 ((line * 30) + t))) * (I 8 ((line * 30) + t))))))), (3, .int (zI tk)), (4, .int (zI (t + 1)))]) [3, 4, 1, 5, 0] rfl ?_
      exact k3 c18 c45

theorem zPT_bd (i : Int) : 0 ≤ zPT i ∧ zPT i ≤ 7 := by
  unfold zPT zPer
  rcases h : i.toNat with _ | _ | _ | _ | k
  all_goals (simp [List.getD]; try omega)
/-- the bits of the varying tokens of a line, up to t -/
def zvb (I : zStore) (line : Int) : Nat → Int
  | 0 => 0
  | t + 1 => zvb I line t + if I 18 (I 23 (line * 30 + t)) = (-1) then 1 + zPT (I 6 (line * 30 + t)) * I 8 (line * 30 + t) else 0
/-- the tokens of a merged line -/
def zTks (I : zStore) (line : Int) : Prop := ∀ t : Int, 0 ≤ t → t < I 4 line → (0 ≤ I 23 (line * 30 + t) ∧ I 23 (line * 30 + t) < 40) ∧ (0 ≤ I 6 (line * 30 + t) ∧ I 6 (line * 30 + t) < 4) ∧ 0 ≤ I 8 (line * 30 + t) ∧ I 8 (line * 30 + t) ≤ 30
theorem zvb_bd {I : zStore} {line : Int} (h : zTks I line) : ∀ t : Nat, (t : Int) ≤ I 4 line → 0 ≤ zvb I line t ∧ zvb I line t ≤ 211 * t
  | 0, _ => by simp only [zvb]; omega
  | t + 1, ht => by
    have h1 := zvb_bd h t (by omega)
    have h2 := h t (by omega) (by omega)
    have h3 := zPT_bd (I 6 (line * 30 + t))
    have h4 : 0 ≤ zPT (I 6 (line * 30 + t)) * I 8 (line * 30 + t) := Int.mul_nonneg h3.1 h2.2.2.1
    have h5 : zPT (I 6 (line * 30 + t)) * I 8 (line * 30 + t) ≤ 7 * 30 := Int.mul_le_mul h3.2 h2.2.2.2 h2.2.2.1 (by decide)
    simp only [zvb]
    split <;> omega
set_option maxHeartbeats 4000000 in
theorem c_X3_bitsOfVarying {F : zFr} {I : zStore} {line : Int} {m : Nat} (hL : zLay F) (hr : zRg I) (h2 : 0 ≤ line ∧ line < 12) (hm : I 4 line = m) (hm2 : m ≤ 30) (hT : zTks I line) : ∀ (l : Launch) (D : va_G) (cs : Nat → ClassId), l.stackTraces = false → zMt l yX3_bitsOfVarying cX3_bitsOfVarying 6 (some .int) rm_X3_bitsOfVarying D cs F I [.ref (F.1 0), .int (zI line)] (fun r I' => r = some (.int (zI (zvb I line m))) ∧ I' = I) := by
  intro l D cs hst
  refine zMt.ofI hst (by decide +kernel) (Nat.le_of_ble_eq_true rfl) fun G hG hR hE => ?_
  refine s_X3_bitsOfVarying_0 hG hR hE hL hr h2 ?_
  rw [hm]
  have key : ∀ (d t : Nat), t + d = m → zW G F 0 0 I [(0, .ref (F.1 0)), (1, .int (zI line)), (2, .int (zI (zvb I line t))), (3, .int (zI m)), (4, .int (zI t))] [] 15 := by
    intro d
    induction d with
    | zero =>
      intro t ht
      have e : t = m := by omega
      subst e
      exact s_X3_bitsOfVarying_15 hG hR hE hL hr (by omega) h2 (fun _ h => absurd h (by omega)) (fun _ => ⟨rfl, rfl⟩) (fun h => absurd h (by omega)) (fun h => absurd h (by omega))
    | succ d ih =>
      intro t ht
      have h := ih (t + 1) (by omega)
      have hx := hT t (by omega) (by omega)
      simp only [zvb] at h
      refine s_X3_bitsOfVarying_15 hG hR hE hL hr (by omega) h2 (fun _ _ => ⟨hx.1, hx.2.1⟩) (fun e => absurd e (by omega)) (fun _ e => ?_) (fun _ e => ?_)
      · rw [if_neg e, Int.add_zero] at h
        exact h
      · rw [if_pos e] at h
        exact h
  exact key m 0 (by omega)
abbrev rm_X3_bits : Room := { frames := 2, cells := 0, slots := 0, locals := 46 }
set_option maxRecDepth 100000 in
set_option maxHeartbeats 4000000 in
theorem s_X3_bits_0 {G : zCx} {F : zFr} {I : zStore} {post : Option Value → zStore → Prop} (hG : zOK G "LineLearner" cX3_bits 4) (hR : zRoom G rm_X3_bits) (hE : zRetI G F cX3_bits 0 0 post) (hL : zLay F) (hr : zRg I)
    (k1 : zW G F 0 0 I [(0, .ref (F.1 0)), (1, .int (zI 0)), (2, .int (zI 0))] [] 4) :
    zW G F 0 0 I [(0, .ref (F.1 0))] [] 0 := by
  refine z_iconst 0 hG dX3_bits_0 ?_
  refine z_istore_n (lv' := [(1, .int (zI 0)), (0, .ref (F.1 0))]) hG dX3_bits_1 rfl (by decide) rfl ?_
  refine z_iconst 0 hG dX3_bits_2 ?_
  refine z_istore_n (lv' := [(2, .int (zI 0)), (1, .int (zI 0)), (0, .ref (F.1 0))]) hG dX3_bits_3 rfl (by decide) rfl ?_
  refine z_perm (lv' := [(0, .ref (F.1 0)), (1, .int (zI 0)), (2, .int (zI 0))]) [2, 1, 0] rfl ?_
  exact k1

set_option maxRecDepth 100000 in
set_option maxHeartbeats 4000000 in
theorem s_X3_bits_4 {G : zCx} {F : zFr} {I : zStore} {post : Option Value → zStore → Prop}{sum slot : Int} (hG : zOK G "LineLearner" cX3_bits 4) (hR : zRoom G rm_X3_bits) (hE : zRetI G F cX3_bits 0 0 post) (hL : zLay F) (hr : zRg I) (h1 : 0 ≤ slot ∧ slot ≤ 40 ∧ I 15 0 ≤ 40) (h2 : 0 ≤ sum ∧ sum ≤ 1000000) (h3 : 0 ≤ I 15 1 ∧ I 15 1 ≤ 12) (hz : ∀ _u : Unit, slot < I 15 0 → (0 ≤ I 16 slot ∧ I 16 slot < 40) ∧ (I 18 (I 16 slot) ≠ (-1) → 0 ≤ I 18 (I 16 slot) ∧ I 18 (I 16 slot) < 360) ∧ (I 18 (I 16 slot) = (-1) ∨ 0 ≤ I 8 (I 18 (I 16 slot)) ∧ I 8 (I 18 (I 16 slot)) ≤ 30))
    (k1 : ((I 15 0) ≤ slot) → zW G F 0 0 I [(0, .ref (F.1 0)), (1, .int (zI sum)), (2, .int (zI 0))] [] 71)
    (k2 : (slot < (I 15 0)) → (¬ (I (15 + 6) (I 16 slot) < I 15 1)) → zW G F 0 0 I [(0, .ref (F.1 0)), (1, .int (zI (sum + (4 + (8 * (max 0 (if I 18 (I 16 slot) = (-1) then (-1) else I 8 (I 18 (I 16 slot))))))))), (2, .int (zI (slot + 1)))] [] 4)
    (k3 : (slot < (I 15 0)) → (I (15 + 6) (I 16 slot) < I 15 1) → zW G F 0 0 I [(0, .ref (F.1 0)), (1, .int (zI ((sum + (4 + (8 * (max 0 (if I 18 (I 16 slot) = (-1) then (-1) else I 8 (I 18 (I 16 slot))))))) + (I 15 1)))), (2, .int (zI (slot + 1)))] [] 4) :
    zW G F 0 0 I [(0, .ref (F.1 0)), (1, .int (zI sum)), (2, .int (zI slot))] [] 4 := by
  refine z_iload_n 2 hG dX3_bits_4 rfl rfl ?_
  refine z_aload_n 0 hG dX3_bits_5 rfl rfl ?_
  refine z_getR (t := 15) hG zcl3 (zlt hL (by decide)) (zl0 hL) 4 (by decide) rfl kw163 dX3_bits_6 ?_
  refine z_getIN (v := I 15 0) hG zcl1 (zlt hL (by decide)) (zl15 hL) 0 (by decide) rfl rfl rfl kw120 dX3_bits_9 ?_
  refine z_icmp_ge (tgt := 69) hG dX3_bits_12 (by decide) (by omega) (hr _ _) (fun c12 => ?_) (fun c12 => ?_)
  · skip
    refine z_iconst 0 hG dX3_bits_69 ?_
    refine z_istore_n (lv' := [(2, .int (zI 0)), (0, .ref (F.1 0)), (1, .int (zI sum))]) hG dX3_bits_70 rfl (by decide) rfl ?_
    refine z_perm (lv' := [(0, .ref (F.1 0)), (1, .int (zI sum)), (2, .int (zI 0))]) [1, 2, 0] rfl ?_
    exact k1 c12
  · skip
    have q9 := hz () c12
    refine z_aload_n 0 hG dX3_bits_15 rfl rfl ?_
    refine z_getR (t := 15) hG zcl3 (zlt hL (by decide)) (zl0 hL) 4 (by decide) rfl kw163 dX3_bits_16 ?_
    refine z_getRN (t := 16) hG zcl1 (zlt hL (by decide)) (zl15 hL) 2 (by decide) rfl kw126 dX3_bits_19 ?_
    refine z_iload_n 2 hG dX3_bits_22 rfl rfl ?_
    refine z_iald (v := I 16 slot) hG (zlt hL (by decide)) (zl16 hL) (by decide) (by omega) rfl dX3_bits_23 ?_
    have q7 := fun _ : Unit => q9.2.1
    refine z_istore_n (lv' := [(3, .int (zI (I 16 slot))), (0, .ref (F.1 0)), (1, .int (zI sum)), (2, .int (zI slot))]) hG dX3_bits_24 rfl (by decide) rfl ?_
    refine z_iload_n 2 hG dX3_bits_25 rfl rfl ?_
    refine z_iconst 4 hG dX3_bits_26 ?_
    refine z_bipush 8 hG dX3_bits_27 (by decide) ?_
    refine z_iconst 0 hG dX3_bits_29 ?_
    refine z_aload_n 1 hG dX3_bits_30 rfl rfl ?_
    refine z_iload_n 0 hG dX3_bits_31 rfl rfl ?_
    refine z_callV [.int (zI (I 16 slot))] hG hR (c_X3_textSize hL hr (by omega) q7) hd_X3_textSize kw243 kw245 kp3 rfl (zlt hL (by decide)) (zl0 hL) (by decide) (by decide) (by decide) (by decide) rfl rfl (Nat.le_of_ble_eq_true rfl) dX3_bits_32 (fun r I' hp => ?_)
    rw [hp.1, hp.2]
    show zW G F 0 0 I [(3, .int (zI (I 16 slot))), (0, .ref (F.1 0)), (1, .int (zI sum)), (2, .int (zI slot))] [.int (zI (if I 18 (I 16 slot) = (-1) then (-1) else I 8 (I 18 (I 16 slot)))), .int (zI 0), .int (zI 8), .int (zI 4), .int (zI sum)] 35
    refine z_max hG hR zm_X3_212 (by decide) (Nat.le_of_ble_eq_true rfl) (by decide) (by omega) dX3_bits_35 ?_
    refine z_imul hG dX3_bits_38 ?_
    refine z_iadd hG dX3_bits_39 ?_
    refine z_iadd hG dX3_bits_40 ?_
    refine z_istore_n (lv' := [(1, .int (zI (sum + (4 + (8 * (max 0 (if I 18 (I 16 slot) = (-1) then (-1) else I 8 (I 18 (I 16 slot))))))))), (3, .int (zI (I 16 slot))), (0, .ref (F.1 0)), (2, .int (zI slot))]) hG dX3_bits_41 rfl (by decide) rfl ?_
    refine z_aload_n 2 hG dX3_bits_42 rfl rfl ?_
    refine z_getR (t := 15) hG zcl3 (zlt hL (by decide)) (zl0 hL) 4 (by decide) rfl kw163 dX3_bits_43 ?_
    refine z_iload_n 1 hG dX3_bits_46 rfl rfl ?_
    refine z_callV [.int (zI (I 16 slot))] hG hR (c_X1_canMiss hr (zFm.at hL) (by omega)) hd_X1_canMiss kw250 kw222 kw223 rfl (zlt hL (by decide)) (zl15 hL) (by decide) (by decide) (by decide) (by decide) rfl rfl (Nat.le_of_ble_eq_true rfl) dX3_bits_47 (fun r I' hp => ?_)
    rw [hp.1, hp.2]
    show zW G F 0 0 I [(1, .int (zI (sum + (4 + (8 * (max 0 (if I 18 (I 16 slot) = (-1) then (-1) else I 8 (I 18 (I 16 slot))))))))), (3, .int (zI (I 16 slot))), (0, .ref (F.1 0)), (2, .int (zI slot))] [.int (zI (if I (15 + 6) (I 16 slot) < I 15 1 then 1 else 0))] 50
    refine z_if_eq (tgt := 63) hG dX3_bits_50 (by decide) (by omega) (fun c50 => ?_) (fun c50 => ?_)
    · skip
      have c50b := zif_n c50
      refine z_iinc (lv' := [(2, .int (zI (slot + 1))), (1, .int (zI (sum + (4 + (8 * (max 0 (if I 18 (I 16 slot) = (-1) then (-1) else I 8 (I 18 (I 16 slot))))))))), (3, .int (zI (I 16 slot))), (0, .ref (F.1 0))]) 3 hG dX3_bits_63 rfl (by decide) rfl ?_
      refine z_goto (tgt := 4) hG dX3_bits_66 (by decide) ?_
      refine z_perm (lv' := [(0, .ref (F.1 0)), (1, .int (zI (sum + (4 + (8 * (max 0 (if I 18 (I 16 slot) = (-1) then (-1) else I 8 (I 18 (I 16 slot))))))))), (2, .int (zI (slot + 1)))]) [3, 1, 0] rfl ?_
      exact k2 c12 c50b
    · skip
      have c50b := zif_y c50
      refine z_iload_n 0 hG dX3_bits_53 rfl rfl ?_
      refine z_aload_n 2 hG dX3_bits_54 rfl rfl ?_
      refine z_getR (t := 15) hG zcl3 (zlt hL (by decide)) (zl0 hL) 4 (by decide) rfl kw163 dX3_bits_55 ?_
      refine z_getIN (v := I 15 1) hG zcl1 (zlt hL (by decide)) (zl15 hL) 1 (by decide) rfl rfl rfl kw123 dX3_bits_58 ?_
      refine z_iadd hG dX3_bits_61 ?_
      refine z_istore_n (lv' := [(1, .int (zI ((sum + (4 + (8 * (max 0 (if I 18 (I 16 slot) = (-1) then (-1) else I 8 (I 18 (I 16 slot))))))) + (I 15 1)))), (3, .int (zI (I 16 slot))), (0, .ref (F.1 0)), (2, .int (zI slot))]) hG dX3_bits_62 rfl (by decide) rfl ?_
      refine z_iinc (lv' := [(2, .int (zI (slot + 1))), (1, .int (zI ((sum + (4 + (8 * (max 0 (if I 18 (I 16 slot) = (-1) then (-1) else I 8 (I 18 (I 16 slot))))))) + (I 15 1)))), (3, .int (zI (I 16 slot))), (0, .ref (F.1 0))]) 3 hG dX3_bits_63 rfl (by decide) rfl ?_
      refine z_goto (tgt := 4) hG dX3_bits_66 (by decide) ?_
      refine z_perm (lv' := [(0, .ref (F.1 0)), (1, .int (zI ((sum + (4 + (8 * (max 0 (if I 18 (I 16 slot) = (-1) then (-1) else I 8 (I 18 (I 16 slot))))))) + (I 15 1)))), (2, .int (zI (slot + 1)))]) [3, 1, 0] rfl ?_
      exact k3 c12 c50b

set_option maxRecDepth 100000 in
set_option maxHeartbeats 4000000 in
theorem s_X3_bits_71 {G : zCx} {F : zFr} {I : zStore} {post : Option Value → zStore → Prop}{sum line : Int} {v94 : Int} (hG : zOK G "LineLearner" cX3_bits 4) (hR : zRoom G rm_X3_bits) (hE : zRetI G F cX3_bits 0 0 post) (hL : zLay F) (hr : zRg I) (h1 : 0 ≤ line ∧ line ≤ 12 ∧ I 2 0 ≤ 12) (h2 : 0 ≤ sum ∧ sum ≤ 1000000) (g1 : ∀ _u : Unit, line < I 2 0 → 0 ≤ I 22 line ∧ I 22 line ≤ 1) (hw : 0 ≤ v94 ∧ v94 ≤ 10000)
    (k1 : ((I 2 0) ≤ line) → post (some (.int (zI sum))) I)
    (k2 : (line < (I 2 0)) → ((I 22 line) = 0) → zW G F 0 0 I [(0, .ref (F.1 0)), (1, .int (zI sum)), (2, .int (zI (line + 1)))] [] 71)
    (kc94 : (line < (I 2 0)) → ((I 22 line) ≠ 0) → ∀ (l : Launch) (D : va_G) (cs : Nat → ClassId), l.stackTraces = false → zMt l yX3_bitsOfVarying cX3_bitsOfVarying 6 (some .int) rm_X3_bitsOfVarying D cs F I [.ref (F.1 0), .int (zI line)] (fun r I' => r = some (.int (zI v94)) ∧ I' = I))
    (hv94 : -2147483648 ≤ v94 ∧ v94 < 2147483648)
    (k5 : (line < (I 2 0)) → ((I 22 line) ≠ 0) → zW G F 0 0 I [(0, .ref (F.1 0)), (1, .int (zI (sum + v94))), (2, .int (zI (line + 1)))] [] 71) :
    zW G F 0 0 I [(0, .ref (F.1 0)), (1, .int (zI sum)), (2, .int (zI line))] [] 71 := by
  refine z_iload_n 2 hG dX3_bits_71 rfl rfl ?_
  refine z_aload_n 0 hG dX3_bits_72 rfl rfl ?_
  refine z_getR (t := 2) hG zcl3 (zlt hL (by decide)) (zl0 hL) 2 (by decide) rfl kw161 dX3_bits_73 ?_
  refine z_getIN (v := I 2 0) hG zcl2 (zlt hL (by decide)) (zl2 hL) 0 (by decide) rfl rfl rfl kw29 dX3_bits_76 ?_
  refine z_icmp_ge (tgt := 105) hG dX3_bits_79 (by decide) (by omega) (hr _ _) (fun c79 => ?_) (fun c79 => ?_)
  · skip
    refine z_iload_n 1 hG dX3_bits_105 rfl rfl ?_
    exact hE _ _ _ _ dX3_bits_106 (k1 c79)
  · skip
    have q9 := g1 () c79
    refine z_aload_n 0 hG dX3_bits_82 rfl rfl ?_
    refine z_getR (t := 22) hG zcl3 (zlt hL (by decide)) (zl0 hL) 5 (by decide) rfl kw164 dX3_bits_83 ?_
    refine z_iload_n 2 hG dX3_bits_86 rfl rfl ?_
    refine z_zald (v := I 22 line) hG (zlt hL (by decide)) (zl22 hL) (by decide) (by omega) rfl dX3_bits_87 ?_
    refine z_if_eq (tgt := 99) hG dX3_bits_88 (by decide) (hr _ _) (fun c88 => ?_) (fun c88 => ?_)
    · skip
      refine z_iinc (lv' := [(2, .int (zI (line + 1))), (0, .ref (F.1 0)), (1, .int (zI sum))]) 2 hG dX3_bits_99 rfl (by decide) rfl ?_
      refine z_goto (tgt := 71) hG dX3_bits_102 (by decide) ?_
      refine z_perm (lv' := [(0, .ref (F.1 0)), (1, .int (zI sum)), (2, .int (zI (line + 1)))]) [1, 2, 0] rfl ?_
      exact k2 c79 c88
    · skip
      refine z_iload_n 1 hG dX3_bits_91 rfl rfl ?_
      refine z_aload_n 0 hG dX3_bits_92 rfl rfl ?_
      refine z_iload_n 2 hG dX3_bits_93 rfl rfl ?_
      refine z_callV [.int (zI line)] hG hR (kc94 c79 c88) hd_X3_bitsOfVarying kw251 kw253 kp4 rfl (zlt hL (by decide)) (zl0 hL) (by decide) (by decide) (by decide) (by decide) rfl rfl (Nat.le_of_ble_eq_true rfl) dX3_bits_94 (fun r I' hp => ?_)
      rw [hp.1, hp.2]
      show zW G F 0 0 I [(0, .ref (F.1 0)), (1, .int (zI sum)), (2, .int (zI line))] [.int (zI v94), .int (zI sum)] 97
      refine z_iadd hG dX3_bits_97 ?_
      refine z_istore_n (lv' := [(1, .int (zI (sum + v94))), (0, .ref (F.1 0)), (2, .int (zI line))]) hG dX3_bits_98 rfl (by decide) rfl ?_
      refine z_iinc (lv' := [(2, .int (zI (line + 1))), (1, .int (zI (sum + v94))), (0, .ref (F.1 0))]) 2 hG dX3_bits_99 rfl (by decide) rfl ?_
      refine z_goto (tgt := 71) hG dX3_bits_102 (by decide) ?_
      refine z_perm (lv' := [(0, .ref (F.1 0)), (1, .int (zI (sum + v94))), (2, .int (zI (line + 1)))]) [2, 1, 0] rfl ?_
      exact k5 c79 c88

/-- the bits of the slots, up to s -/
def zb1 (I : zStore) : Nat → Int
  | 0 => 0
  | s + 1 => (zb1 I s + (4 + 8 * max 0 (if I 18 (I 16 s) = (-1) then (-1) else I 8 (I 18 (I 16 s))))) + if I 21 (I 16 s) < I 15 1 then I 15 1 else 0
/-- the bits of the lines, up to l -/
def zb2 (I : zStore) : Nat → Int
  | 0 => 0
  | l + 1 => zb2 I l + if I 22 l = 0 then 0 else zvb I l (I 4 l).toNat
/-- the slots of the format -/
def zSl (I : zStore) (n : Int) : Prop := ∀ s : Int, 0 ≤ s → s < n → (0 ≤ I 16 s ∧ I 16 s < 40) ∧ (I 18 (I 16 s) ≠ (-1) → 0 ≤ I 18 (I 16 s) ∧ I 18 (I 16 s) < 360) ∧ (I 18 (I 16 s) = (-1) ∨ 0 ≤ I 8 (I 18 (I 16 s)) ∧ I 8 (I 18 (I 16 s)) ≤ 30)
theorem zb1_bd {I : zStore} {n : Int} (h : zSl I n) (hj : 0 ≤ I 15 1 ∧ I 15 1 ≤ 12) : ∀ s : Nat, (s : Int) ≤ n → 0 ≤ zb1 I s ∧ zb1 I s ≤ 256 * s
  | 0, _ => by simp only [zb1]; omega
  | s + 1, hs => by
    have h1 := zb1_bd h hj s (by omega)
    have h2 := (h s (by omega) (by omega)).2.2
    simp only [zb1]
    split
    · split <;> omega
    · rename_i q
      have h3 := h2.resolve_left q
      split <;> omega
theorem zb2_bd {I : zStore} {N : Nat} (hln : zLn I N) (hT : ∀ l : Int, 0 ≤ l → l < N → I 22 l ≠ 0 → zTks I l) : ∀ l : Nat, l ≤ N → 0 ≤ zb2 I l ∧ zb2 I l ≤ 10000 * l
  | 0, _ => by simp only [zb2]; omega
  | l + 1, hl => by
    have h1 := zb2_bd hln hT l (by omega)
    have h2 := hln l (by omega) (by omega)
    simp only [zb2]
    split
    · omega
    · rename_i q
      have h3 := zvb_bd (hT l (by omega) (by omega) q) (I 4 l).toNat (by omega)
      omega
set_option maxHeartbeats 4000000 in
theorem c_X3_bits {F : zFr} {I : zStore} {n N : Nat} (hL : zLay F) (hr : zRg I) (hn : I 15 0 = n) (hn2 : n ≤ 40) (hN : I 2 0 = N) (hN2 : N ≤ 12) (hj : 0 ≤ I 15 1 ∧ I 15 1 ≤ 12) (hz : zSl I n) (hln : zLn I N) (hT : ∀ l : Int, 0 ≤ l → l < N → I 22 l ≠ 0 → zTks I l) : ∀ (l : Launch) (D : va_G) (cs : Nat → ClassId), l.stackTraces = false → zMt l yX3_bits cX3_bits 4 (some .int) rm_X3_bits D cs F I [.ref (F.1 0)] (fun r I' => r = some (.int (zI (zb1 I n + zb2 I N))) ∧ I' = I) := by
  intro l D cs hst
  refine zMt.ofI hst (by decide +kernel) (Nat.le_of_ble_eq_true rfl) fun G hG hR hE => ?_
  refine s_X3_bits_0 hG hR hE hL hr ?_
  have hb1 := zb1_bd hz hj n (Int.le_refl _)
  have key2 : ∀ (d i : Nat), i + d = N → zW G F 0 0 I [(0, .ref (F.1 0)), (1, .int (zI (zb1 I n + zb2 I i))), (2, .int (zI i))] [] 71 := by
    intro d
    induction d with
    | zero =>
      intro i hi
      have e : i = N := by omega
      subst e
      have hb2 := zb2_bd hln hT i (Nat.le_refl _)
      exact s_X3_bits_71 (v94 := 0) hG hR hE hL hr (by omega) (by omega) (fun _ h => absurd h (by omega)) (by omega) (fun _ => ⟨rfl, rfl⟩) (fun h => absurd h (by omega)) (fun h => absurd h (by omega)) (by omega) (fun h => absurd h (by omega))
    | succ d ih =>
      intro i hi
      have h := ih (i + 1) (by omega)
      have hb2 := zb2_bd hln hT i (by omega)
      have hli := hln i (by omega) (by omega)
      simp only [zb2] at h
      by_cases q : I 22 i = 0
      · rw [if_pos q, Int.add_zero] at h
        exact s_X3_bits_71 (v94 := 0) hG hR hE hL hr (by omega) (by omega) (fun _ _ => hli.1) (by omega) (fun e => absurd e (by omega)) (fun _ _ => h) (fun _ e => absurd q e) (by omega) (fun _ e => absurd q e)
      · rw [if_neg q, ← Int.add_assoc] at h
        have hTi := hT i (by omega) (by omega) q
        have hv := zvb_bd hTi (I 4 i).toNat (by omega)
        exact s_X3_bits_71 (v94 := zvb I i (I 4 i).toNat) hG hR hE hL hr (by omega) (by omega) (fun _ _ => hli.1) (by omega) (fun e => absurd e (by omega)) (fun _ e => absurd e q) (fun _ _ => c_X3_bitsOfVarying hL hr (by omega) (by omega) (by omega) hTi) (by omega) (fun _ _ => h)
  have h71 := key2 N 0 (by omega)
  simp only [zb2, Int.add_zero] at h71
  have key : ∀ (d i : Nat), i + d = n → zW G F 0 0 I [(0, .ref (F.1 0)), (1, .int (zI (zb1 I i))), (2, .int (zI i))] [] 4 := by
    intro d
    induction d with
    | zero =>
      intro i hi
      have e : i = n := by omega
      subst e
      exact s_X3_bits_4 hG hR hE hL hr (by omega) (by omega) hj (fun _ h => absurd h (by omega)) (fun _ => h71) (fun h => absurd h (by omega)) (fun h => absurd h (by omega))
    | succ d ih =>
      intro i hi
      have h := ih (i + 1) (by omega)
      have hb := zb1_bd hz hj i (by omega)
      have hzi := hz i (by omega) (by omega)
      simp only [zb1] at h
      refine s_X3_bits_4 hG hR hE hL hr (by omega) (by omega) hj (fun _ _ => hzi) (fun e => absurd e (by omega)) (fun _ e => ?_) (fun _ e => ?_)
      · rw [if_neg (show ¬ (I 21 (I 16 i) < I 15 1) from e), Int.add_zero] at h
        exact h
      · rw [if_pos (show I 21 (I 16 i) < I 15 1 from e)] at h
        exact h
  exact key n 0 (by omega)
