/-! the static table -/
def zPT (i : Int) : Int := zPer i.toNat
def zTt (G : zCx) (t : Nat) : Prop := match G with
  | (p, l, e, R, s, m, args, below, meth, c, Q, A, n, D, cs) => va_T .int t 4 (fun j => .int (zI (zPer j))) A s s.heap
section ZT
variable {G : zCx} {F : zFr} {cells slots : Nat} {I : zStore} {lv lv' : zLv} {st : List Value} {pc : Nat} {own : String} {cc : ByteArray} {nL : Nat} {index : Nat}
theorem z_gets (hG : zOK G own cc nL) (hlink : zWd (.fieldLink own index "LineLearner" "BITS_A_BYTE" "[I")) (hd : decode cc pc = .ok (.getstatic index, 3)) (kk : ∀ t : Nat, zTt G t → zW G F cells slots I lv (.ref t :: st) (pc + 3)) : zW G F cells slots I lv st pc := by
  obtain ⟨p, l, e, R, s, m, args, below, meth, c, Q, A, nn, D, cs⟩ := G
  intro hc hs H locs ls hP hD hS hl
  obtain ⟨g1, g2, g3, g4, g5, g6, g7, g8, g9, g10, g11⟩ := hG
  obtain ⟨t, t1, t2⟩ := g8.2.2
  exact va_gets g1 g2 t1 hS g3 (g7.at hlink _) (fun _ h => h) hd (kk t t2 hc hs H locs ls hP hD hS hl)
theorem z_tld {i : Int} {t : Nat} (hG : zOK G own cc nL) (hT : zTt G t) (hi : 0 ≤ i ∧ i < 4) (hd : decode cc pc = .ok (.iaload, 1)) (kk : zW G F cells slots I lv (.int (zI (zPT i)) :: st) (pc + 1)) : zW G F cells slots I lv (.int (zI i) :: .ref t :: st) pc := by
  obtain ⟨p, l, e, R, s, m, args, below, meth, c, Q, A, nn, D, cs⟩ := G
  intro hc hs H locs ls hP hD hS hl
  obtain ⟨g1, g2, g3, g4, g5, g6, g7, g8, g9, g10, g11⟩ := hG
  have hw := kk hc hs H locs ls hP hD hS hl
  have hc1 := zI_clamp hi.1 (by omega)
  refine va_ti (v := .int (zI (zPT i))) g1 g2 hT hS (zI_in (n := 4) hi.1 hi.2 (by decide)) ?_ hd hw
  rw [show (zI i).toNatClampNeg = i.toNat by omega]
  rfl
end ZT
abbrev rm_X3_bitsOfVarying : Room := { frames := 1, cells := 0, slots := 0, locals := 21 }
set_option maxRecDepth 100000 in
set_option maxHeartbeats 4000000 in
theorem s_X3_bitsOfVarying_0 {G : zCx} {F : zFr} {I : zStore} {post : Option Value → zStore → Prop}{line : Int} (hG : zOK G "LineLearner" cX3_bitsOfVarying 6) (hR : zRoom G rm_X3_bitsOfVarying) (hE : zRetI G F cX3_bitsOfVarying 0 0 post) (hL : zLay F) (hr : zRg I) (h2 : 0 ≤ line ∧ line < 12)
    (k1 : zW G F 0 0 I [(0, .ref (F.1 0)), (1, .int (zI line)), (2, .int (zI 0)), (3, .int (zI (I 4 line))), (4, .int (zI 0))] [] 15) :
    zW G F 0 0 I [(0, .ref (F.1 0)), (1, .int (zI line))] [] 0 := by
  refine z_iconst 0 hG dX3_bitsOfVarying_0 ?_
  refine z_istore_n (lv' := [(2, .int (zI 0)), (0, .ref (F.1 0)), (1, .int (zI line))]) hG dX3_bitsOfVarying_1 rfl (by decide) rfl ?_
  refine z_aload_n 1 hG dX3_bitsOfVarying_2 rfl rfl ?_
  refine z_getR (t := 2) hG zcl3 (zlt hL (by decide)) (zl0 hL) 2 (by decide) rfl kw161 dX3_bitsOfVarying_3 ?_
  refine z_getRN (t := 4) hG zcl2 (zlt hL (by decide)) (zl2 hL) 2 (by decide) rfl kw34 dX3_bitsOfVarying_6 ?_
  refine z_iload_n 2 hG dX3_bitsOfVarying_9 rfl rfl ?_
  refine z_iald (v := I 4 line) hG (zlt hL (by decide)) (zl4 hL) (by decide) (by omega) rfl dX3_bitsOfVarying_10 ?_
  refine z_istore_n (lv' := [(3, .int (zI (I 4 line))), (2, .int (zI 0)), (0, .ref (F.1 0)), (1, .int (zI line))]) hG dX3_bitsOfVarying_11 rfl (by decide) rfl ?_
  refine z_iconst 0 hG dX3_bitsOfVarying_12 ?_
  refine z_istore (lv' := [(4, .int (zI 0)), (3, .int (zI (I 4 line))), (2, .int (zI 0)), (0, .ref (F.1 0)), (1, .int (zI line))]) hG dX3_bitsOfVarying_13 (by decide) rfl ?_
  refine z_perm (lv' := [(0, .ref (F.1 0)), (1, .int (zI line)), (2, .int (zI 0)), (3, .int (zI (I 4 line))), (4, .int (zI 0))]) [3, 4, 2, 1, 0] rfl ?_
  exact k1

set_option maxRecDepth 100000 in
set_option maxHeartbeats 4000000 in
theorem s_X3_bitsOfVarying_15 {G : zCx} {F : zFr} {I : zStore} {post : Option Value → zStore → Prop}{line sum tk t : Int} (hG : zOK G "LineLearner" cX3_bitsOfVarying 6) (hR : zRoom G rm_X3_bitsOfVarying) (hE : zRetI G F cX3_bitsOfVarying 0 0 post) (hL : zLay F) (hr : zRg I) (h1 : 0 ≤ t ∧ t ≤ tk ∧ tk ≤ 30) (h2 : 0 ≤ line ∧ line < 12) (g1 : ∀ _u : Unit, t < tk → (0 ≤ I 23 (line * 30 + t) ∧ I 23 (line * 30 + t) < 40) ∧ 0 ≤ I 6 (line * 30 + t) ∧ I 6 (line * 30 + t) < 4)
    (k1 : (tk ≤ t) → post (some (.int (zI sum))) I)
    (k2 : (t < tk) → ((I 18 (I 23 ((line * 30) + t))) ≠ (-1)) → zW G F 0 0 I [(0, .ref (F.1 0)), (1, .int (zI line)), (2, .int (zI sum)), (3, .int (zI tk)), (4, .int (zI (t + 1)))] [] 15)
    (k3 : (t < tk) → ((I 18 (I 23 ((line * 30) + t))) = (-1)) → zW G F 0 0 I [(0, .ref (F.1 0)), (1, .int (zI line)), (2, .int (zI (sum + (1 + ((zPT (I 6 ((line * 30) + t))) * (I 8 ((line * 30) + t))))))), (3, .int (zI tk)), (4, .int (zI (t + 1)))] [] 15) :
    zW G F 0 0 I [(0, .ref (F.1 0)), (1, .int (zI line)), (2, .int (zI sum)), (3, .int (zI tk)), (4, .int (zI t))] [] 15 := by
  refine z_iload 4 hG dX3_bitsOfVarying_15 rfl ?_
  refine z_iload_n 3 hG dX3_bitsOfVarying_17 rfl rfl ?_
  refine z_icmp_ge (tgt := 84) hG dX3_bitsOfVarying_18 (by decide) (by omega) (by omega) (fun c18 => ?_) (fun c18 => ?_)
  · skip
    refine z_iload_n 2 hG dX3_bitsOfVarying_84 rfl rfl ?_
    exact hE _ _ _ _ dX3_bitsOfVarying_85 (k1 c18)
  · skip
    have q9 := g1 () c18
    refine z_iload_n 1 hG dX3_bitsOfVarying_21 rfl rfl ?_
    refine z_iload 4 hG dX3_bitsOfVarying_22 rfl ?_
    refine z_callS [.int (zI line), .int (zI t)] hG hR (c_X3_placeOf hr) hd_X3_placeOf kw255 kw229 (by decide) (by decide) (by decide) (by decide) rfl rfl (Nat.le_of_ble_eq_true rfl) dX3_bitsOfVarying_24 (fun r I' hp => ?_)
    rw [hp.1, hp.2]
    show zW G F 0 0 I [(0, .ref (F.1 0)), (1, .int (zI line)), (2, .int (zI sum)), (3, .int (zI tk)), (4, .int (zI t))] [.int (zI ((line * 30) + t))] 27
    refine z_istore (lv' := [(5, .int (zI ((line * 30) + t))), (0, .ref (F.1 0)), (1, .int (zI line)), (2, .int (zI sum)), (3, .int (zI tk)), (4, .int (zI t))]) hG dX3_bitsOfVarying_27 (by decide) rfl ?_
    refine z_aload_n 1 hG dX3_bitsOfVarying_29 rfl rfl ?_
    refine z_getR (t := 15) hG zcl3 (zlt hL (by decide)) (zl0 hL) 4 (by decide) rfl kw163 dX3_bitsOfVarying_30 ?_
    refine z_getRN (t := 18) hG zcl1 (zlt hL (by decide)) (zl15 hL) 4 (by decide) rfl kw132 dX3_bitsOfVarying_33 ?_
    refine z_aload_n 1 hG dX3_bitsOfVarying_36 rfl rfl ?_
    refine z_getR (t := 23) hG zcl3 (zlt hL (by decide)) (zl0 hL) 6 (by decide) rfl kw165 dX3_bitsOfVarying_37 ?_
    refine z_iload 0 hG dX3_bitsOfVarying_40 rfl ?_
    refine z_iald (v := I 23 ((line * 30) + t)) hG (zlt hL (by decide)) (zl23 hL) (by decide) (by omega) rfl dX3_bitsOfVarying_42 ?_
    refine z_iald (v := I 18 (I 23 ((line * 30) + t))) hG (zlt hL (by decide)) (zl18 hL) (by decide) (by omega) rfl dX3_bitsOfVarying_43 ?_
    refine z_iconst (-1) hG dX3_bitsOfVarying_44 ?_
    refine z_icmp_ne (tgt := 78) hG dX3_bitsOfVarying_45 (by decide) (hr _ _) (by decide) (fun c45 => ?_) (fun c45 => ?_)
    · skip
      refine z_iinc (lv' := [(4, .int (zI (t + 1))), (5, .int (zI ((line * 30) + t))), (0, .ref (F.1 0)), (1, .int (zI line)), (2, .int (zI sum)), (3, .int (zI tk))]) 5 hG dX3_bitsOfVarying_78 rfl (by decide) rfl ?_
      refine z_goto (tgt := 15) hG dX3_bitsOfVarying_81 (by decide) ?_
      refine z_perm (lv' := [(0, .ref (F.1 0)), (1, .int (zI line)), (2, .int (zI sum)), (3, .int (zI tk)), (4, .int (zI (t + 1)))]) [2, 3, 4, 5, 0] rfl ?_
      exact k2 c18 c45
    · skip
      refine z_iload_n 3 hG dX3_bitsOfVarying_48 rfl rfl ?_
      refine z_iconst 1 hG dX3_bitsOfVarying_49 ?_
      refine z_gets hG kw256 dX3_bitsOfVarying_50 fun t50 ht50 => ?_
      refine z_aload_n 1 hG dX3_bitsOfVarying_53 rfl rfl ?_
      refine z_getR (t := 2) hG zcl3 (zlt hL (by decide)) (zl0 hL) 2 (by decide) rfl kw161 dX3_bitsOfVarying_54 ?_
      refine z_getRN (t := 6) hG zcl2 (zlt hL (by decide)) (zl2 hL) 4 (by decide) rfl kw40 dX3_bitsOfVarying_57 ?_
      refine z_iload 0 hG dX3_bitsOfVarying_60 rfl ?_
      refine z_iald (v := I 6 ((line * 30) + t)) hG (zlt hL (by decide)) (zl6 hL) (by decide) (by omega) rfl dX3_bitsOfVarying_62 ?_
      refine z_tld hG ht50 (by omega) dX3_bitsOfVarying_63 ?_
      refine z_aload_n 1 hG dX3_bitsOfVarying_64 rfl rfl ?_
      refine z_getR (t := 2) hG zcl3 (zlt hL (by decide)) (zl0 hL) 2 (by decide) rfl kw161 dX3_bitsOfVarying_65 ?_
      refine z_getRN (t := 8) hG zcl2 (zlt hL (by decide)) (zl2 hL) 6 (by decide) rfl kw46 dX3_bitsOfVarying_68 ?_
      refine z_iload 0 hG dX3_bitsOfVarying_71 rfl ?_
      refine z_iald (v := I 8 ((line * 30) + t)) hG (zlt hL (by decide)) (zl8 hL) (by decide) (by omega) rfl dX3_bitsOfVarying_73 ?_
      refine z_imul hG dX3_bitsOfVarying_74 ?_
      refine z_iadd hG dX3_bitsOfVarying_75 ?_
      refine z_iadd hG dX3_bitsOfVarying_76 ?_
      refine z_istore_n (lv' := [(2, .int (zI (sum + (1 + ((zPT (I 6 ((line * 30) + t))) * (I 8 ((line * 30) + t))))))), (5, .int (zI ((line * 30) + t))), (0, .ref (F.1 0)), (1, .int (zI line)), (3, .int (zI tk)), (4, .int (zI t))]) hG dX3_bitsOfVarying_77 rfl (by decide) rfl ?_
      refine z_iinc (lv' := [(4, .int (zI (t + 1))), (2, .int (zI (sum + (1 + ((zPT (I 6 ((line * 30) + t))) * (I 8 ((line * 30) + t))))))), (5, .int (zI ((line * 30) + t))), (0, .ref (F.1 0)), (1, .int (zI line)), (3, .int (zI tk))]) 5 hG dX3_bitsOfVarying_78 rfl (by decide) rfl ?_
      refine z_goto (tgt := 15) hG dX3_bitsOfVarying_81 (by decide) ?_
      refine z_perm (lv' := [(0, .ref (F.1 0)), (1, .int (zI line)), (2, .int (zI (sum + (1 + ((zPT (I 6 ((line * 30) + t))) * (I 8 ((line * 30) + t))))))), (3, .int (zI tk)), (4, .int (zI (t + 1)))]) [3, 4, 1, 5, 0] rfl ?_
      exact k3 c18 c45

