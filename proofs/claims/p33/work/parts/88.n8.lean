theorem hd_L_store : zHead yL_store cL_store 7 3 (some .boolean) := ⟨kv653, kw0, by decide +kernel, by decide +kernel, by decide +kernel⟩
/-- a contract over the store and a String outside -/
def sPre (D : va_G) (cs : Nat → ClassId) (F : zFr) (I : zStore) (sz : Nat) (av : List Value) (o : oSt) : Array Value → State → Prop := va_Pc av (fun U => U.heap.size = sz ∧ zWo D cs F (zAd F sz) I U ∧ oStr (zAd F sz) U U.heap o.1 o.2.1 o.2.2)
def zMs (l : Launch) (y : MethodName) (cc : ByteArray) (maxL : Nat) (ret : Option FieldType) (rm : Room) (D : va_G) (cs : Nat → ClassId) (F : zFr) (I : zStore) (av : List Value) (o : oSt) (post : Option Value → zStore → Prop) : Prop :=
  ∀ sz, Met l y [Cond.code y cc maxL ret] rm (sPre D cs F I sz av o) (zQ D cs F sz post) rm.cells rm.slots (zAd F sz)
theorem sPre_blind {D : va_G} {cs : Nat → ClassId} {F : zFr} {I : zStore} {sz : Nat} {av : List Value} {o : oSt} : FrameBlind (sPre D cs F I sz av o) := by
  intro a U g mk ⟨h1, h2, h3, h4⟩
  obtain ⟨k1, k2, k3⟩ := zPre_blind (D := D) (cs := cs) (F := F) (I := I) (sz := sz) (av := av) a U g mk ⟨h1, h2, h3⟩
  exact ⟨k1, k2, k3, h4.moved (u := U) (U := U.calling g mk a) (Vm.Alike.refl U.vm)⟩
theorem zMs.ofZ {l : Launch} {y : MethodName} {cc : ByteArray} {maxL : Nat} {rm : Room} {D : va_G} {cs : Nat → ClassId} {F : zFr} {I : zStore} {av : List Value} {o : oSt} {post : Option Value → zStore → Prop} (hst : l.stackTraces = false) (hy : plainName y.cls = true) (hlen : (lg_sl av).length ≤ maxL)
    (k : ∀ Z, zOK Z y.cls cc maxL → zRoom Z rm → zStr Z o → zRetZ Z F cc rm.cells rm.slots post → zW Z F 0 0 I (lv_args 0 av) [] 0) : zMs l y cc maxL (some .boolean) rm D cs F I av o post := by
  intro sz
  refine Met.ofW (cc := cc) (maxL := maxL) (ret := some .boolean) hy rfl ?_
  intro p e s m args below meth c s₁ B hml hv
  obtain ⟨h1, h2, h3, h4⟩ := hv
  refine zBody hst hlen _ B hml ⟨h1, h2, h3⟩ (fun G hG hok hrm => k G hok hrm ?_ ?_)
  · subst hG
    exact h4
  · subst hG
    intro x I1 lv1 pc1 hd hx hp hc hs H locs ls hP hD hS hl
    exact W.zret (v := zI x) B.exec B.bytes B.returns (by rcases hx with rfl | rfl <;> rfl) (fun t ht hW => ⟨⟨_, I1, rfl, hp, by rw [ht]; exact hP⟩, hS.F ht⟩) hS.2.2 hd B.notSynchronized
section ST
variable {Z : zCx} {F : zFr} {I : zStore} {J : Heap → List Loc → Prop} {cells slots : Nat} {lv lv' : zLv} {st : List Value} {pc : Nat} {own : String} {cc : ByteArray} {nL : Nat}
theorem n_min {G : nCx} {index a b : Nat} {rmG : Room} (hG : nOK G own cc nL) (hRm : nRoom G rmG) (hm : zMath own index Lib.Math.min.name Lib.Math.min.code) (hf : 1 ≤ rmG.frames) (hlo : (st.map fun v => v.category).sum + 13 ≤ rmG.locals) (ha : a < 2 ^ 31) (hb : b < 2 ^ 31) (hd : decode cc pc = .ok (.invokestatic index, 3)) (kk : nW G J cells slots lv (.int (nI (min a b)) :: st) (pc + 3)) : nW G J cells slots lv (.int (nI b) :: .int (nI a) :: st) pc := by
  obtain ⟨p, l, e, R, s, m, args, below, meth, c, Q, nn⟩ := G
  intro hc hs H locs ls hJ hl2
  have h := kk hc hs H locs ls hJ hl2
  have e1 : nI (min a b) = if nI b < nI a then nI b else nI a := by
    by_cases q : b < a
    · rw [if_pos ((nI_ltI hb ha).mpr q), Nat.min_eq_right (by omega)]
    · rw [if_neg (fun z => q ((nI_ltI hb ha).mp z)), Nat.min_eq_left (by omega)]
  rw [e1] at h
  have r1 := hRm.1
  have r2 := hRm.2.1
  obtain ⟨g1, g2, g3, g4, g5, g7⟩ := hG
  obtain ⟨m1, m2, m3, m4⟩ := hm
  exact va_mmin g1 g2 (g4.trans hl2.1.symm) g3 (g7.at m1 _) (g7.at m2 _) (g7.at m3 _) (g7.at m4 _) (by omega) (by omega) hc hs hd h
theorem zm_L_64 : zMath "LineLearnerLaw" 64 Lib.Math.min.name Lib.Math.min.code := ⟨kv654, kw226, kw12, kw227⟩
abbrev rm_L_store : Room := { frames := 10, cells := 4, slots := 24, locals := 300 }
theorem s_store_16 {a va f j c s N : Nat} {bs : List Nat} {X : Int64} {I' : zStore} (hZ : zOK Z "LineLearnerLaw" cL_store 7) (hR : zRoom Z rm_L_store) (hT : zStr Z (a, va, bs)) (hb : ∀ b ∈ bs, 32 ≤ b ∧ b < 127) (hbl : bs.length ≤ 24) (hj : f + j < min (f + 8) bs.length) (hc : c ≤ 4) (hs : s ≤ 24)
    (kk : nW (nZ Z) (zInv Z F I') c s [(6, .int (nI (f + (j + 1)))), (4, .long ((X <<< ((8 : Int32).toInt64 &&& 63)) ||| (nI (bs.getD (f + j) 0)).toInt64)), (3, .int (nI f)), (0, .ref (F.1 0)), (1, .ref a), (2, .int (nI N))] [] 16) : nW (nZ Z) (zInv Z F I') c s [(6, .int (nI (f + j))), (4, .long X), (3, .int (nI f)), (0, .ref (F.1 0)), (1, .ref a), (2, .int (nI N))] [] 16 := by
  have hG := zN_ok hZ
  have hRn := zN_rm hR
  have hx : nExt (zInv Z F I') := zInv_ext hZ
  have ho : nStr (nZ Z) (zInv Z F I') (a, va, bs) := zStr_n hZ hT
  have hc0 : c ≤ rm_L_store.cells := by show c ≤ 4; omega
  have hs0 : s ≤ rm_L_store.slots := by show s ≤ 24; omega
  refine n_iload 0 hG dL_store_16 rfl ?_
  refine n_iload_n 2 hG dL_store_18 rfl rfl ?_
  refine n_bipush (nI 8) hG dL_store_19 (by decide) ?_
  refine n_iadd (z := nI (f + 8)) hG dL_store_21 (nI_add _ _) ?_
  refine n_aload_n 4 hG dL_store_22 rfl rfl ?_
  refine n_len hG hRn hx ho kv443 (by decide) (by decide) (Nat.le_of_ble_eq_true rfl) dL_store_23 hc0 hs0 ?_
  show nW (nZ Z) (zInv Z F I') c s [(6, .int (nI (f + j))), (4, .long X), (3, .int (nI f)), (0, .ref (F.1 0)), (1, .ref a), (2, .int (nI N))] [.int (nI bs.length), .int (nI (f + 8)), .int (nI (f + j))] 26
  refine n_min hG hRn zm_L_64 (by decide) (Nat.le_of_ble_eq_true rfl) (by omega) (by omega) dL_store_26 ?_
  show nW (nZ Z) (zInv Z F I') c s [(6, .int (nI (f + j))), (4, .long X), (3, .int (nI f)), (0, .ref (F.1 0)), (1, .ref a), (2, .int (nI N))] [.int (nI (min (f + 8) bs.length)), .int (nI (f + j))] 29
  refine n_icmp_ge (tgt := 53) hG dL_store_29 (by decide) (fun q9 => absurd q9 (nI_ge (by omega) (by omega))) (fun _ => ?_)
  refine n_lload 1 hG dL_store_32 rfl ?_
  refine n_bipush 8 hG dL_store_34 (by decide) ?_
  refine n_lshl (z := (X <<< ((8 : Int32).toInt64 &&& 63))) hG dL_store_36 rfl ?_
  refine n_aload_n 4 hG dL_store_37 rfl rfl ?_
  refine n_iload 0 hG dL_store_38 rfl ?_
  refine n_charAt hG hRn hx ho (by omega) (by omega) ((getD_lt hb (f + j)).1) kv655 (by decide) (by decide) (Nat.le_of_ble_eq_true rfl) dL_store_40 hc0 hs0 ?_
  show nW (nZ Z) (zInv Z F I') c s [(6, .int (nI (f + j))), (4, .long X), (3, .int (nI f)), (0, .ref (F.1 0)), (1, .ref a), (2, .int (nI N))] [.int (nI (bs.getD (f + j) 0)), .long (X <<< ((8 : Int32).toInt64 &&& 63))] 43
  refine n_i2l (z := (nI (bs.getD (f + j) 0)).toInt64) hG dL_store_43 rfl ?_
  refine n_lor (z := ((X <<< ((8 : Int32).toInt64 &&& 63)) ||| (nI (bs.getD (f + j) 0)).toInt64)) hG dL_store_44 rfl ?_
  refine n_lstore (lv' := [(4, .long ((X <<< ((8 : Int32).toInt64 &&& 63)) ||| (nI (bs.getD (f + j) 0)).toInt64)), (6, .int (nI (f + j))), (3, .int (nI f)), (0, .ref (F.1 0)), (1, .ref a), (2, .int (nI N))]) hG dL_store_45 (by decide) rfl ?_
  refine n_iinc (lv' := [(6, .int (nI (f + (j + 1)))), (4, .long ((X <<< ((8 : Int32).toInt64 &&& 63)) ||| (nI (bs.getD (f + j) 0)).toInt64)), (3, .int (nI f)), (0, .ref (F.1 0)), (1, .ref a), (2, .int (nI N))]) (v := nI (f + (j + 1))) 1 hG dL_store_47 rfl (nI_1 (f + j)) (by decide) rfl ?_
  refine n_goto (tgt := 16) hG dL_store_50 (by decide) ?_
  exact kk
theorem s_store_53 {a va f j c s N n : Nat} {bs : List Nat} {X : Int64} {I' B' : zStore} (hZ : zOK Z "LineLearnerLaw" cL_store 7) (hR : zRoom Z rm_L_store) (hT : zStr Z (a, va, bs)) (hb : ∀ b ∈ bs, 32 ≤ b ∧ b < 127) (hbl : bs.length ≤ 24) (hL : zLay F) (hr : zRg I') (hRR : rR I' B' N n) (hj : f + j = min (f + 8) bs.length) (hcb : zcb X 8 ≠ (-1)) (hval : zI (I' 0 1 + zcb X 8) = nI (f + j)) (h30 : I' 0 1 + zcb X 8 ≤ 30) (hc : c + 1 ≤ 4) (hs : s + 6 ≤ 24)
    (kk : nW (nZ Z) (zInv Z F (zfd I' X 8)) (c + 1) (s + 6) [(3, .int (nI (f + 8))), (0, .ref (F.1 0)), (1, .ref a), (2, .int (nI N))] [] 2) : nW (nZ Z) (zInv Z F I') c s [(6, .int (nI (f + j))), (4, .long X), (3, .int (nI f)), (0, .ref (F.1 0)), (1, .ref a), (2, .int (nI N))] [] 16 := by
  have hG := zN_ok hZ
  have hRn := zN_rm hR
  have hx : nExt (zInv Z F I') := zInv_ext hZ
  have ho : nStr (nZ Z) (zInv Z F I') (a, va, bs) := zStr_n hZ hT
  have hc0 : c ≤ rm_L_store.cells := by show c ≤ 4; omega
  have hs0 : s ≤ rm_L_store.slots := by show s ≤ 24; omega
  have hce1 : c + rm_X3_feed.cells ≤ rm_L_store.cells := by show c + 1 ≤ 4; omega
  have hsl1 : s + rm_X3_feed.slots ≤ rm_L_store.slots := by show s + 6 ≤ 24; omega
  have hx2 : nExt (zInv Z F (zfd I' X 8)) := zInv_ext hZ
  have ho2 : nStr (nZ Z) (zInv Z F (zfd I' X 8)) (a, va, bs) := zStr_n hZ hT
  have hmin : f + j = min (f + 8) bs.length := hj
  refine n_iload 0 hG dL_store_16 rfl ?_
  refine n_iload_n 2 hG dL_store_18 rfl rfl ?_
  refine n_bipush (nI 8) hG dL_store_19 (by decide) ?_
  refine n_iadd (z := nI (f + 8)) hG dL_store_21 (nI_add _ _) ?_
  refine n_aload_n 4 hG dL_store_22 rfl rfl ?_
  refine n_len hG hRn hx ho kv443 (by decide) (by decide) (Nat.le_of_ble_eq_true rfl) dL_store_23 hc0 hs0 ?_
  show nW (nZ Z) (zInv Z F I') c s [(6, .int (nI (f + j))), (4, .long X), (3, .int (nI f)), (0, .ref (F.1 0)), (1, .ref a), (2, .int (nI N))] [.int (nI bs.length), .int (nI (f + 8)), .int (nI (f + j))] 26
  refine n_min hG hRn zm_L_64 (by decide) (Nat.le_of_ble_eq_true rfl) (by omega) (by omega) dL_store_26 ?_
  show nW (nZ Z) (zInv Z F I') c s [(6, .int (nI (f + j))), (4, .long X), (3, .int (nI f)), (0, .ref (F.1 0)), (1, .ref a), (2, .int (nI N))] [.int (nI (min (f + 8) bs.length)), .int (nI (f + j))] 29
  refine n_icmp_ge (tgt := 53) hG dL_store_29 (by decide) (fun _ => ?_) (fun q9 => absurd (by rw [← hmin]; exact Int32.le_refl _) q9)
  refine n_aload_n 3 hG dL_store_53 rfl rfl ?_
  refine n_lload 1 hG dL_store_54 rfl ?_
  refine w_feed hZ hR hL hr hRR hcb (by omega) (by decide) (by decide) hce1 hsl1 (Nat.le_of_ble_eq_true rfl) dL_store_56 ?_
  rw [hval]
  show nW (nZ Z) (zInv Z F (zfd I' X 8)) (c + rm_X3_feed.cells) (s + rm_X3_feed.slots) [(6, .int (nI (f + j))), (4, .long X), (3, .int (nI f)), (0, .ref (F.1 0)), (1, .ref a), (2, .int (nI N))] [.int (nI (f + j))] 59
  refine n_iload_n 2 hG dL_store_59 rfl rfl ?_
  refine n_bipush (nI 8) hG dL_store_60 (by decide) ?_
  refine n_iadd (z := nI (f + 8)) hG dL_store_62 (nI_add _ _) ?_
  refine n_aload_n 4 hG dL_store_63 rfl rfl ?_
  refine n_len hG hRn hx2 ho2 kv443 (by decide) (by decide) (Nat.le_of_ble_eq_true rfl) dL_store_64 hce1 hsl1 ?_
  show nW (nZ Z) (zInv Z F (zfd I' X 8)) (c + rm_X3_feed.cells) (s + rm_X3_feed.slots) [(6, .int (nI (f + j))), (4, .long X), (3, .int (nI f)), (0, .ref (F.1 0)), (1, .ref a), (2, .int (nI N))] [.int (nI bs.length), .int (nI (f + 8)), .int (nI (f + j))] 67
  refine n_min hG hRn zm_L_64 (by decide) (Nat.le_of_ble_eq_true rfl) (by omega) (by omega) dL_store_67 ?_
  show nW (nZ Z) (zInv Z F (zfd I' X 8)) (c + rm_X3_feed.cells) (s + rm_X3_feed.slots) [(6, .int (nI (f + j))), (4, .long X), (3, .int (nI f)), (0, .ref (F.1 0)), (1, .ref a), (2, .int (nI N))] [.int (nI (min (f + 8) bs.length)), .int (nI (f + j))] 70
  refine n_icmp_eq (tgt := 75) hG dL_store_70 (by decide) (fun _ => ?_) (fun q9 => absurd (by rw [hmin]) q9)
  refine n_iinc (lv' := [(3, .int (nI (f + 8))), (6, .int (nI (f + j))), (4, .long X), (0, .ref (F.1 0)), (1, .ref a), (2, .int (nI N))]) (v := nI (f + 8)) 2 hG dL_store_75 rfl (nI_add f 8) (by decide) rfl ?_
  refine n_goto (tgt := 2) hG dL_store_78 (by decide) ?_
  refine n_perm (lv' := [(3, .int (nI (f + 8))), (0, .ref (F.1 0)), (1, .ref a), (2, .int (nI N))]) [0, 3, 4, 5] rfl ?_
  exact kk
theorem zRg_sto {A : zStore} {N z : Nat} {V : Nat → Int} (hr : zRg A) (hN : N < 12) (hz : z ≤ 30) (hV : ∀ t : Nat, t < zcnt (zkb (zad1 A N z) N) z → 0 ≤ V t ∧ V t < 360) : zRg (zsto A N z V) :=
  zRg_up (zRg_up (zRg_ad hr hN hz hV) (by decide)) (by decide)
theorem s_store_2 {a va f c s N n : Nat} {bs : List Nat} {I' B' : zStore} {post : Option Value → zStore → Prop} (hZ : zOK Z "LineLearnerLaw" cL_store 7) (hR : zRoom Z rm_L_store) (hT : zStr Z (a, va, bs)) (hb : ∀ b ∈ bs, 32 ≤ b ∧ b < 127) (hbl : bs.length ≤ 24) (hE : zRetZ Z F cL_store rm_L_store.cells rm_L_store.slots post) (hL : zLay F) (hr : zRg I') (hRR : rR I' B' N n) (hN8 : N < 12) (hz : I' 0 1 = bs.length) (hf : bs.length ≤ f) (hf2 : f ≤ 40) (hc : c + 1 ≤ 4) (hs : s + 6 ≤ 24)
    (hp : ∀ V : Nat → Int, (∀ t : Nat, t < zcnt (zkb (zad1 I' N bs.length) N) bs.length → zfst (zad2 I' N bs.length) N ((N : Int) * 30 + t) (V t) ∧ 0 ≤ V t ∧ V t < 360) → post (some (.int 1)) (zsto I' N bs.length V)) : nW (nZ Z) (zInv Z F I') c s [(3, .int (nI f)), (0, .ref (F.1 0)), (1, .ref a), (2, .int (nI N))] [] 2 := by
  have hG := zN_ok hZ
  have hRn := zN_rm hR
  have hx : nExt (zInv Z F I') := zInv_ext hZ
  have ho : nStr (nZ Z) (zInv Z F I') (a, va, bs) := zStr_n hZ hT
  have hc0 : c ≤ rm_L_store.cells := by show c ≤ 4; omega
  have hs0 : s ≤ rm_L_store.slots := by show s ≤ 24; omega
  have hce1 : c + rm_X3_store.cells ≤ rm_L_store.cells := by show c + 1 ≤ 4; omega
  have hsl1 : s + rm_X3_store.slots ≤ rm_L_store.slots := by show s + 6 ≤ 24; omega
  have fin : ∀ V : Nat → Int, (∀ t : Nat, t < zcnt (zkb (zad1 I' N bs.length) N) bs.length → zfst (zad2 I' N bs.length) N ((N : Int) * 30 + t) (V t) ∧ 0 ≤ V t ∧ V t < 360) → zRg (zsto I' N bs.length V) ∧ rR (zsto I' N bs.length V) (zmsto B' N bs.length) (N + 1) n := fun V hV => ⟨zRg_sto hr hN8 (by omega) (fun t ht => (hV t ht).2), r_store hRR hN8 hz (fun t ht => (hV t ht).1)⟩
  refine n_iload_n 0 hG dL_store_2 rfl rfl ?_
  refine n_aload_n 2 hG dL_store_3 rfl rfl ?_
  refine n_len hG hRn hx ho kv443 (by decide) (by decide) (Nat.le_of_ble_eq_true rfl) dL_store_4 hc0 hs0 ?_
  show nW (nZ Z) (zInv Z F I') c s [(3, .int (nI f)), (0, .ref (F.1 0)), (1, .ref a), (2, .int (nI N))] [.int (nI bs.length), .int (nI f)] 7
  refine n_icmp_ge (tgt := 81) hG dL_store_7 (by decide) (fun _ => ?_) (fun q9 => absurd (nI_le (by omega) (by omega)) q9)
  refine n_aload_n 1 hG dL_store_81 rfl rfl ?_
  refine w_store hZ hR hL hr hRR (by omega) hz (by decide) (by decide) hce1 hsl1 (Nat.le_of_ble_eq_true rfl) dL_store_82 (fun V hV => ?_)
  show nW (nZ Z) (zInv Z F (zsto I' N bs.length V)) (c + rm_X3_store.cells) (s + rm_X3_store.slots) [(3, .int (nI f)), (0, .ref (F.1 0)), (1, .ref a), (2, .int (nI N))] [.int (nI N)] 85
  obtain ⟨e1, e2⟩ := fin V hV
  refine n_iload_n 3 hG dL_store_85 rfl rfl ?_
  refine n_icmp_ne (tgt := 103) hG dL_store_86 (by decide) (fun q9 => absurd q9 (fun h9 => h9 rfl)) (fun _ => ?_)
  refine n_aload_n 1 hG dL_store_89 rfl rfl ?_
  refine w_lineCount hZ hR hL e1 e2 (by decide) (by decide) hce1 hsl1 (Nat.le_of_ble_eq_true rfl) dL_store_90 ?_
  show nW (nZ Z) (zInv Z F (zsto I' N bs.length V)) (c + rm_X3_store.cells + rm_X3_lineCount.cells) (s + rm_X3_store.slots + rm_X3_lineCount.slots) [(3, .int (nI f)), (0, .ref (F.1 0)), (1, .ref a), (2, .int (nI N))] [.int (nI (N + 1))] 93
  refine n_iload_n 3 hG dL_store_93 rfl rfl ?_
  refine n_iconst (nI 1) hG dL_store_94 (by decide) ?_
  refine n_iadd (z := nI (N + 1)) hG dL_store_95 (nI_1 N) ?_
  refine n_icmp_ne (tgt := 103) hG dL_store_96 (by decide) (fun q9 => absurd q9 (fun h9 => h9 rfl)) (fun _ => ?_)
  refine n_iconst 1 hG dL_store_99 (by decide) ?_
  refine n_goto (tgt := 104) hG dL_store_100 (by decide) ?_
  refine n_widen (k := rm_L_store.cells) (n := rm_L_store.slots) hce1 hsl1 hRn (Nat.le_refl _) (Nat.le_refl _) ?_
  exact nW_z (hE 1 _ _ _ dL_store_104 (Or.inr rfl) (hp V hV))
theorem s_store_2r {a va f c s N : Nat} {bs : List Nat} {I' : zStore} (hZ : zOK Z "LineLearnerLaw" cL_store 7) (hR : zRoom Z rm_L_store) (hT : zStr Z (a, va, bs)) (hb : ∀ b ∈ bs, 32 ≤ b ∧ b < 127) (hbl : bs.length ≤ 24) (hf : f < bs.length) (hc : c ≤ 4) (hs : s ≤ 24)
    (kk : nW (nZ Z) (zInv Z F I') c s [(6, .int (nI (f + 0))), (4, .long (0 : Int64)), (3, .int (nI f)), (0, .ref (F.1 0)), (1, .ref a), (2, .int (nI N))] [] 16) : nW (nZ Z) (zInv Z F I') c s [(3, .int (nI f)), (0, .ref (F.1 0)), (1, .ref a), (2, .int (nI N))] [] 2 := by
  have hG := zN_ok hZ
  have hRn := zN_rm hR
  have hx : nExt (zInv Z F I') := zInv_ext hZ
  have ho : nStr (nZ Z) (zInv Z F I') (a, va, bs) := zStr_n hZ hT
  have hc0 : c ≤ rm_L_store.cells := by show c ≤ 4; omega
  have hs0 : s ≤ rm_L_store.slots := by show s ≤ 24; omega
  refine n_iload_n 0 hG dL_store_2 rfl rfl ?_
  refine n_aload_n 2 hG dL_store_3 rfl rfl ?_
  refine n_len hG hRn hx ho kv443 (by decide) (by decide) (Nat.le_of_ble_eq_true rfl) dL_store_4 hc0 hs0 ?_
  show nW (nZ Z) (zInv Z F I') c s [(3, .int (nI f)), (0, .ref (F.1 0)), (1, .ref a), (2, .int (nI N))] [.int (nI bs.length), .int (nI f)] 7
  refine n_icmp_ge (tgt := 81) hG dL_store_7 (by decide) (fun q9 => absurd q9 (nI_ge (by omega) (by omega))) (fun _ => ?_)
  refine n_lconst (0 : Int64) hG dL_store_10 (by decide) ?_
  refine n_lstore (lv' := [(4, .long (0 : Int64)), (3, .int (nI f)), (0, .ref (F.1 0)), (1, .ref a), (2, .int (nI N))]) hG dL_store_11 (by decide) rfl ?_
  refine n_iload_n 1 hG dL_store_13 rfl rfl ?_
  refine n_istore (lv' := [(6, .int (nI f)), (4, .long (0 : Int64)), (3, .int (nI f)), (0, .ref (F.1 0)), (1, .ref a), (2, .int (nI N))]) hG dL_store_14 (by decide) rfl ?_
  exact kk
/-- store, of the law -/
theorem c_L_store {F : zFr} {I B : zStore} {N n a va : Nat} {bs : List Nat} (hL : zLay F) (hS : LSt I B N n) (hN : N < 12) (hb : ∀ b ∈ bs, 32 ≤ b ∧ b < 127) (hbl : bs.length ≤ 24) (hpl : zPline bs) : ∀ (l : Launch) (D : va_G) (cs : Nat → ClassId), l.stackTraces = false → zMs l yL_store cL_store 7 (some .boolean) rm_L_store D cs F I [.ref (F.1 0), .ref a, .int (nI N)] (a, va, bs) (fun r I' => r = some (.int 1) ∧ ∃ B', LSt I' B' (N + 1) n ∧ B' 119 0 = B 119 0) := by
  intro l D cs hst
  refine zMs.ofZ hst (by decide +kernel) (Nat.le_of_ble_eq_true rfl) fun Z hZ hR hT hE => zW_n ?_
  obtain ⟨hr0, hR0, hb0, hco, hln⟩ := hS
  have inner : ∀ (f c s : Nat) (I' B' : zStore), f < bs.length → zFd I I' bs f → zRg I' → rR I' B' N n → c + 1 ≤ 4 → s + 6 ≤ 24 → (∀ (X : Int64) (m : Nat), m ≤ 8 → f + m = min (f + 8) bs.length → zcb X 8 = m → zRg (zfd I' X 8) → zFd I (zfd I' X 8) bs (f + m) → rR (zfd I' X 8) (zmfd B' X 8) N n → nW (nZ Z) (zInv Z F (zfd I' X 8)) (c + 1) (s + 6) [(3, .int (nI (f + 8))), (0, .ref (F.1 0)), (1, .ref a), (2, .int (nI N))] [] 2) → ∀ (d j : Nat) (X : Int64), f + j + d = min (f + 8) bs.length → X.toBitVec.toNat = zpv bs f j → nW (nZ Z) (zInv Z F I') c s [(6, .int (nI (f + j))), (4, .long X), (3, .int (nI f)), (0, .ref (F.1 0)), (1, .ref a), (2, .int (nI N))] [] 16 := by
    intro f c s I' B' hf hF hr hRR hc hs kk d
    induction d with
    | zero =>
      intro j X hj hX
      obtain ⟨h1, h2⟩ := zFd_step (m := j) hb (by omega) (by omega) hX hF
      have hv : I' 0 1 = f := hF.2.1
      refine s_store_53 hZ hR hT hb hbl hL hr hRR (by omega) (by omega) ?_ (by omega) hc hs ?_
      · rw [h1, hv]
        rfl
      · exact kk X j (by omega) (by omega) h1 (zfd_rg hr ⟨by omega, by omega⟩ 8 (by decide) (by omega)) h2 (r_feed hRR (by omega) (by omega))
    | succ d ih =>
      intro j X hj hX
      refine s_store_16 hZ hR hT hb hbl (by omega) (by omega) (by omega) ?_
      refine ih (j + 1) _ (by omega) ?_
      rw [zsh8 ((getD_lt hb (f + j)).1), hX]
      rfl
  have outer : ∀ (d f c s : Nat) (I' B' : zStore), bs.length ≤ f + 8 * d → f ≤ 32 → f ≤ bs.length ∨ bs.length ≤ f → zFd I I' bs (min f bs.length) → zRg I' → rR I' B' N n → B' 119 0 = B 119 0 → c + d + 1 ≤ 4 → s + 6 * d + 6 ≤ 24 → nW (nZ Z) (zInv Z F I') c s [(3, .int (nI f)), (0, .ref (F.1 0)), (1, .ref a), (2, .int (nI N))] [] 2 := by
    intro d
    have fin : ∀ (f c s : Nat) (I' B' : zStore), bs.length ≤ f → f ≤ 40 → zFd I I' bs (min f bs.length) → zRg I' → rR I' B' N n → B' 119 0 = B 119 0 → c + 1 ≤ 4 → s + 6 ≤ 24 → nW (nZ Z) (zInv Z F I') c s [(3, .int (nI f)), (0, .ref (F.1 0)), (1, .ref a), (2, .int (nI N))] [] 2 := by
      intro f c s I' B' hf hf2 hF hr hRR hB hc hs
      rw [Nat.min_eq_right hf] at hF
      refine s_store_2 hZ hR hT hb hbl hE hL hr hRR hN hF.2.1 hf hf2 hc hs (fun V hV => ⟨rfl, zmsto B' N bs.length, ⟨zRg_sto hr hN (by omega) (fun t ht => (hV t ht).2), r_store hRR hN hF.2.1 (fun t ht => (hV t ht).1), zsto_v.1, ?_, fun l hl => ?_⟩, ?_⟩)
      · rw [zsto_big (by decide), hF.1 10 1 ⟨by decide, Or.inl (by decide)⟩, hF.1 10 2 ⟨by decide, Or.inl (by decide)⟩, hF.1 10 3 ⟨by decide, Or.inl (by decide)⟩]
        exact hco
      · by_cases hlN : l < N
        · obtain ⟨b1, h1, h2⟩ := hln l hlN
          have hb1 : b1.length ≤ 30 := by
            obtain ⟨k, -, hk⟩ := h1
            have := (zPl_b hk).1
            omega
          exact ⟨b1, h1, zsto_old (by omega) hlN hb1 (lnOK_c hb1 (hF.1 _ _ ⟨by decide, Or.inl (by decide)⟩) (hF.1 _ _ ⟨by decide, Or.inl (by decide)⟩) (fun c j h3 h4 _ _ => hF.1 c j ⟨by omega, Or.inl (by omega)⟩) h2)⟩
        · have : l = N := by omega
          subst this
          exact ⟨bs, hpl, zsto_new rfl hF.2.2⟩
      · rw [zmsto_o ⟨by decide, Or.inr (by decide)⟩]
        exact hB
    induction d with
    | zero =>
      intro f c s I' B' h1 h2 h3 hF hr hRR hB hc hs
      exact fin f c s I' B' (by omega) (by omega) hF hr hRR hB (by omega) (by omega)
    | succ d ih =>
      intro f c s I' B' h1 h2 h3 hF hr hRR hB hc hs
      by_cases hf : f < bs.length
      · refine s_store_2r hZ hR hT hb hbl hf (by omega) (by omega) ?_
        rw [Nat.min_eq_left (by omega)] at hF
        refine inner f c s I' B' hf hF hr hRR (by omega) (by omega) (fun X m hm hfm hcb hr2 hF2 hRR2 => ?_) (min (f + 8) bs.length - f) 0 0 (by omega) rfl
        refine ih (f + 8) (c + 1) (s + 6) _ _ (by omega) (by omega) (by omega) ?_ hr2 hRR2 ?_ (by omega) (by omega)
        · rw [← hfm]
          exact hF2
        · rw [zmfd_o ⟨by decide, Or.inl (by decide)⟩]
          exact hB
      · exact fin f c s I' B' (by omega) (by omega) hF hr hRR hB (by omega) (by omega)
  have hG := zN_ok hZ
  show nW (nZ Z) (zInv Z F I) 0 0 [(0, .ref (F.1 0)), (1, .ref a), (2, .int (nI N))] [] 0
  refine n_iconst (nI 0) hG dL_store_0 (by decide) ?_
  refine n_istore_n (lv' := [(3, .int (nI 0)), (0, .ref (F.1 0)), (1, .ref a), (2, .int (nI N))]) hG dL_store_1 rfl (by decide) rfl ?_
  exact outer 3 0 0 0 I B (by omega) (by decide) (Or.inl (Nat.zero_le _)) ⟨fun _ _ _ => rfl, by rw [hb0]; rfl, fun i hi => absurd hi (by omega)⟩ hr0 hR0 rfl (by decide) (by decide)
end ST
