theorem dflt3 : ∀ ad : Nat → Nat, ∀ j, j < 11 → defaultValue (tyX3 j) = vp_V (zfv ad (fun _ => 0) 0 [some none, none, some none, some none, some none, some none, some none, none, none, some none, some none]) j
  | _, 0, _ => rfl
  | _, 1, _ => rfl
  | _, 2, _ => rfl
  | _, 3, _ => rfl
  | _, 4, _ => rfl
  | _, 5, _ => rfl
  | _, 6, _ => rfl
  | _, 7, _ => rfl
  | _, 8, _ => rfl
  | _, 9, _ => rfl
  | _, 10, _ => rfl
  | _, j + 11, hj => absurd hj (by omega)
theorem zlayT_s : spB 0 12 = zlayT.take 110 := by decide +kernel
theorem zLay_of {L : List (Nat × zSpec)} (h : L.map Prod.snd = zlayT.take 110) : zLay (zext zF0 L) := by
  have hl : L.length = 110 := by
    have := congrArg List.length h
    rw [List.length_map] at this
    exact this
  refine ⟨by rw [zext_n, hl]; decide, fun k hk => ?_⟩
  obtain ⟨q, hq⟩ : ∃ q, L[k]? = some q := ⟨L[k], List.getElem?_eq_getElem (by omega)⟩
  have a := (zext_at L zF0 hq (k := k) (by show k = 0 + k; omega)).2
  have e : (zlayT.take 110)[k]? = some q.2 := by
    rw [← h, List.getElem?_map, hq]
    rfl
  rw [List.getElem?_take_of_lt hk] at e
  rw [a]
  unfold zlay
  rw [List.getD_eq_getElem?_getD, e]
  rfl
/-- the store of a new LineLearner -/
def zI0 : zStore := zup (zup (zup (fun _ _ => 0) 10 1 2) 10 2 3) 10 3 4
theorem LSt0 : LSt zI0 zIs 0 0 ∧ zIs 119 0 = 0 := by
  have hr : zRg zI0 := by
    unfold zI0
    exact zRg_up (zRg_up (zRg_up (fun _ _ => by decide) (by decide)) (by decide)) (by decide)
  refine ⟨⟨hr, rR_c (A := zIs) (fun c j hc _ _ _ _ _ => ?_) rEB.rfl r_start, ?_, ?_, fun l hl => absurd hl (Nat.not_lt_zero l)⟩, zIs_o (by decide) (by decide)⟩
  · have e : zIs c j = zI0 c j := by
      unfold zIs
      rw [zup_k (show c ≠ 110 by omega), zup_k (show c ≠ 110 by omega), zup_k (show c ≠ 110 by omega)]
      rfl
    exact e.symm
  · unfold zI0
    rw [zup_k (by decide), zup_k (by decide), zup_k (by decide)]
  · unfold zI0
    refine ⟨?_, ?_, ?_⟩
    · rw [zup_i (by decide), zup_i (by decide), zup_at]; decide
    · rw [zup_i (by decide), zup_at]; decide
    · rw [zup_at]; decide
section LY
variable {Z : zCx} {F : zFr} {I : zStore} {b L : Nat} {xs : Nat → Int32} {cells slots : Nat} {lv : zLv} {st : List Value} {pc : Nat} {cc : ByteArray} {nL : Nat}
/-- at the law's entry: an array of Strings can be made; the script is outside -/
def lG (Z : zCx) (b L : Nat) (xs : Nat → Int32) : Prop := match Z with
  | (p, l, e, R, s, m, args, below, meth, c, Q, A, n, D, cs) => va_AO "java/lang/String" s ∧ va_X b L xs s s.heap ∧ b < s.heap.size ∧ ¬ A b
/-- the new array of lines -/
def lK (Z : zCx) (F : zFr) (bl : Nat) (cS : ClassId) : Prop := match Z with
  | (p, l, e, R, s, m, args, below, meth, c, Q, A, n, D, cs) => A bl ∧ (∀ k, k < F.2.1 → F.1 k ≠ bl) ∧ ArrOfT s cS (.object "java/lang/String") ∧ va_RA s cS (.object "java/lang/String")
def lInv (Z : zCx) (F : zFr) (I : zStore) (bl : Nat) (cS : ClassId) : Heap → List Loc → Prop := fun H locs => zInv Z F I H locs ∧ H[bl]? = some (vp_cell cS (bRefs (fun _ => none)))
theorem l_arr {index : Nat} {rm : Room} (hG : zOK Z "LineLearnerLaw" cc nL) (hRm : zRoom Z rm) (hQ : lG Z b L xs) (hlk : zWd (.classLink "LineLearnerLaw" index "java/lang/String")) (hce : cells + 1 ≤ rm.cells) (hsl : slots + 8 ≤ rm.slots) (hd : decode cc pc = .ok (.anewarray index, 3))
    (kk : ∀ (bl : Nat) (cS : ClassId), lK Z F bl cS → nW (nZ Z) (lInv Z F I bl cS) (cells + 1) (slots + 8) lv (.ref bl :: st) (pc + 3)) : nW (nZ Z) (zInv Z F I) cells slots lv (.int (nI 8) :: st) pc := by
  obtain ⟨p, l, e, R, s, m, args, below, meth, c, Q, A, nn, D, cs⟩ := Z
  intro hc hs H locs ls hJ hl
  obtain ⟨g1, g2, g3, g4, g5, g6, g7, g8, g9, g10, g11⟩ := hG
  have r3 := hRm.2.2.1
  have r4 := hRm.2.2.2
  obtain ⟨hP, hD, hS⟩ := hJ
  refine va_newq (C := "java/lang/String") (D := D) (cl := vwCl) (ws := zws cs F I) (tys := ztys cs) (A := A) (H0 := s.heap) (N' := 8) g1 g2 g3 (g7.at hlk _) hQ.1 g6 hP hD hS g10 (nI_pos (by decide)) (nI_clamp (by decide)) (by decide) (by omega) (by omega) hd (fun q cA H1 hK2 hP2 hD2 hS2 => ?_)
  have hat : (zws cs F I ++ [(q, (.inl (cA, 8, .inr (.inr (.inr (.inr (fun _ => none))))) : va_E))])[F.2.1]? = some (q, .inl (cA, 8, .inr (.inr (.inr (.inr (fun _ => none)))))) := by
    rw [List.getElem?_append_right (by rw [zws_len]; exact Nat.le_refl _), zws_len, Nat.sub_self]
    rfl
  have hge : ∀ k, k < F.2.1 → (zws cs F I ++ [(q, (.inl (cA, 8, .inr (.inr (.inr (.inr (fun _ => none))))) : va_E))])[k]? = some (F.1 k, zE cs F I k) := fun k hk => by
    rw [List.getElem?_append_left (by rw [zws_len]; exact hk)]
    exact zws_get hk
  have hk5 := hK2.2 5 (cA, .object "java/lang/String") rfl
  refine kk q cA ⟨hD2.2 _ _ hat, fun k hk e => ?_, hk5.1, hk5.2⟩ (by omega) (by omega) H1 locs ls ⟨⟨fun k x hx => ?_, ⟨fun i j x y hx hy e => ?_, fun k x hx => ?_⟩, hS2⟩, hP2 _ _ hat⟩ hl
  · have := hD2.1 k F.2.1 _ _ (hge k hk) hat e
    omega
  · exact hP2 k x (by rw [List.getElem?_append_left (List.getElem?_eq_some_iff.mp hx).1]; exact hx)
  · exact hD.1 i j x y hx hy e
  · exact hD.2 k x hx
theorem l_build {B : zStore} {bl index : Nat} {cS : ClassId} {rmG : Room} (hG : zOK Z "LineLearnerLaw" cc nL) (hRm : zRoom Z rmG) (hL : zLay F) (hLL : L < 2 ^ 31) (hS0 : LSt I B 0 0) (hB0 : B 119 0 = 0) (hQ : lG Z b L xs) (hK : lK Z F bl cS) (hl : zWd (.methodLink "LineLearnerLaw" index yL_build)) (hi : zWd (.static yL_build)) (hf : 13 ≤ rmG.frames) (hlo : 500 ≤ rmG.locals) (hce : cells + 420 ≤ rmG.cells) (hsl : slots + 39000 ≤ rmG.slots) (hcat : (st.map fun v => v.category).sum ≤ 8) (hd : decode cc pc = .ok (.invokestatic index, 3))
    (kk : ∀ (I' : zStore) (B' : zStore) (N n m : Nat), (1 ≤ N ∧ N ≤ 8) → LSt I' B' N n → rMs I' B' N n → OVp I' N n → bOK m B' → nW (nZ Z) (zInv Z F I') (cells + 420) (slots + 39000) lv (.int (nI m) :: st) (pc + 3)) : nW (nZ Z) (lInv Z F I bl cS) cells slots lv (.ref bl :: .int (nI 0) :: .ref b :: .ref (F.1 0) :: st) pc := by
  obtain ⟨p, l, e, R, s, m, args, below, meth, c, Q, A, n, D, cs⟩ := Z
  intro hc hs H locs ls hJ hl2
  have r1 := hRm.1
  have r2 := hRm.2.1
  have r3 := hRm.2.2.1
  have r4 := hRm.2.2.2
  have hG' := hG
  obtain ⟨g1, g2, g3, g4, g5, g6, g7, g8, g9, g10, g11⟩ := hG
  obtain ⟨⟨hP, hD, hSv⟩, jc⟩ := hJ
  obtain ⟨q1, q2, q3, q4⟩ := hQ
  obtain ⟨k1, k2, k3, k4⟩ := hK
  have hbA : ∀ q, bA F H.size bl q → A q := by
    rintro q (h | rfl)
    · exact zAd_in (G := (p, l, e, R, s, m, args, below, meth, c, Q, A, n, D, cs)) hG' hD hSv q h
    · exact k1
  have hr := va_runS (l := l) (p := p) (e := e) (R := R) (s := s) (m := m) (args := args) (below := below) (meth := meth) (c := c) (H := H) (locs := locs) (cells := cells) (slots := slots) (g := F0 m pc ls (.ref bl :: .int (nI 0) :: .ref b :: .ref (F.1 0) :: st)) (rest := st) (As := [.ref (F.1 0), .ref b, .int (nI 0), .ref bl]) (Ts := []) ⟨g1, g2, g4, g3, fun w (hw : w ∈ []) => (List.not_mem_nil hw).elim⟩ (c_L_build (bl := bl) (b := b) (cS := cS) (xs := xs) hL hLL hS0 hB0 (fun N hN I' B' h => ⟨fun i hi => absurd hi (Nat.not_lt_zero i), fun i j _ hj => absurd hj (Nat.not_lt_zero j)⟩) l D cs g11 H.size) ⟨zCallB hG' hd_L_build hl ⟨by show 12 + 1 ≤ _; omega, by show 8 + (11 + 11) + 470 ≤ _; omega⟩, g7.at hi _⟩ ⟨bPre_blind, fun U hU hW => ?_⟩ rfl rfl hl2.1 rfl (lv_room hcat) hd ⟨by show cells + 420 ≤ _; omega, by show slots + 39000 ≤ _; omega⟩
  · intro T hT X
    obtain ⟨v, st₀, t, T', L', h0, X', hL', e1, e2, ⟨⟨r, u, hv, hp, hb⟩, hF⟩, stp⟩ := hr T hT X
    cases hv
    obtain ⟨B', N, n', m', rfl, w1, w2, w3, w4, w5⟩ := hp
    obtain ⟨-, -, x3⟩ := vx_keep h0 e1 hSv (fun q _ h => hbA q h) hbA hL' hF
    obtain ⟨t2, a1, c1⟩ := kk u B' N n' m' w1 w2 w3 w4 w5 (by omega) (by omega) T'.heap (locs ++ L') ls ⟨by rw [e1]; exact hb, zD_of (zD_inj hD) (fun k hk => zD_in hD hk), x3⟩ hl2 T' rfl X'
    exact ⟨t2, stp t2 a1, c1⟩
  · have hw := zWo_in hG' hP hD hSv hU hW
    refine ⟨rfl, hw.1, ⟨hw.2.1, hw.2.2.1, hw.2.2.2.1, hw.2.2.2.2.1, ?_, hw.2.2.2.2.2.2⟩, k2, ⟨arrOfT_moved hW.alike k3, k4.moved hW.alike⟩, va_AO.moved hW.alike q1, ?_, ?_, fun h => q4 (hbA b h), ⟨fun _ => none, ?_⟩⟩
    · rw [hU]
      exact ((g8.kept hSv.2.1).moved hW).narrow hbA
    · rw [hU]
      exact (q2.kept (hSv.2.1 b q3 q4)).moved hW.alike
    · rw [hU]
      exact Nat.lt_of_lt_of_le q3 hSv.1
    · rw [hU]
      exact jc
set_option maxRecDepth 100000 in
theorem w_start {rmG : Room} (hG : zOK Z "LineLearnerLaw" cL_law 10) (hO : zAO Z) (hQ : lG Z b L xs) (hR : zRoom Z rmG) (hcR : 600130 ≤ rmG.cells) (hsR : 7301080 ≤ rmG.slots) (hfR : 14 ≤ rmG.frames) (hlR : 558 ≤ rmG.locals) (hL2 : L ≤ 260)
    (kret : ∀ (F : zFr) (I : zStore) (lv : zLv) (pc : Nat), decode cL_law pc = .ok (.ireturn, 1) → nW (nZ Z) (zInv Z F I) 600130 7301080 lv [.int 1] pc) : zW Z zF0 0 0 (fun _ _ => 0) [(0, .ref b)] [] 0 := by
  show zW Z (zext zF0 []) 0 0 (fun _ _ => 0) [(0, .ref b)] [] 0
  refine k_newO (ci := 3) [some none, none, some none, some none, some none, some none, some none, none, none, some none, some none] hG hR zWf_0 rfl zcl3 kv21 kw15 kw1 dflt3 (fun t h => absurd (show some (some t) ∈ [(some none : Option (Option Nat)), none, (some none : Option (Option Nat)), (some none : Option (Option Nat)), (some none : Option (Option Nat)), (some none : Option (Option Nat)), (some none : Option (Option Nat)), none, none, (some none : Option (Option Nat)), (some none : Option (Option Nat))] from h) (by simp)) (by omega) (by omega) dL_law_0 (fun x hW => ?_)
  refine z_dup hG dL_law_3 rfl ?_
  refine z_callI (F := zext zF0 [(x, .inl (3, [some none, none, some none, some none, some none, some none, some none, none, none, some none, some none]))]) [] hG hO hR (c_X3_init (F := zF0) hW (fun _ _ => rfl)) hd_X3_init kv23 kw17 rfl (by show 3 ≤ _; omega) (by show 90 ≤ _; omega) (by show 0 + 1 + 109 ≤ _; omega) (by show 0 + 11 + 6894 ≤ _; omega) rfl rfl (Nat.le_of_ble_eq_true rfl) dL_law_4 (fun F' I' hm hp => ?_)
  obtain ⟨⟨L1, rfl, hs, s1, M1, hx⟩, hW, hI⟩ := hp
  have hI : I' = zI0 := hI
  subst hI
  have hs : L1.map Prod.snd = zlayT.take 110 := hs.trans zlayT_s
  have hLy : zLay (zext zF0 L1) := zLay_of hs
  have x0 : (zext zF0 L1).1 0 = x := (zext_at L1 zF0 (i := 0) (q := (x, s1)) (by rw [hx]; rfl) rfl).1
  show zW Z (zext zF0 L1) 110 6905 zI0 [(0, .ref b)] [.ref x] 7
  refine z_astore_n (lv' := [(1, .ref x), (0, .ref b)]) hG dL_law_7 rfl (by decide) rfl ?_
  refine zW_n ?_
  have hZ := hG
  replace hG := zN_ok hZ
  refine n_bipush (nI 8) hG dL_law_8 (by decide) ?_
  refine l_arr hZ hR hQ kv425 (Nat.le_trans (by decide) hcR) (Nat.le_trans (by decide) hsR) dL_law_10 (fun bl cS hK => ?_)
  show nW (nZ Z) (lInv Z (zext zF0 L1) zI0 bl cS) 111 6913 [(1, .ref x), (0, .ref b)] [.ref bl] 13
  refine n_astore_n (lv' := [(2, .ref bl), (1, .ref x), (0, .ref b)]) hG dL_law_13 rfl (by decide) rfl ?_
  refine n_aload_n 1 hG dL_law_14 rfl rfl ?_
  refine n_aload_n 2 hG dL_law_15 rfl rfl ?_
  refine n_iconst (nI 0) hG dL_law_16 (by decide) ?_
  refine n_aload_n 0 hG dL_law_17 rfl rfl ?_
  rw [← x0]
  refine l_build hZ hR hLy (Nat.lt_of_le_of_lt hL2 (by decide)) LSt0.1 LSt0.2 hQ hK kv410 kv411 (Nat.le_trans (by decide) hfR) (Nat.le_trans (by decide) hlR) (Nat.le_trans (by decide) hcR) (Nat.le_trans (by decide) hsR) (Nat.le_of_ble_eq_true rfl) dL_law_18 (fun I B N n m hN hS hM hO hb => ?_)
  show nW (nZ Z) (zInv Z (zext zF0 L1) I) 531 45913 [(2, .ref bl), (1, .ref ((zext zF0 L1).1 0)), (0, .ref b)] [.int (nI m)] 21
  refine n_istore_n (lv' := [(3, .int (nI m)), (2, .ref bl), (1, .ref ((zext zF0 L1).1 0)), (0, .ref b)]) hG dL_law_21 rfl (by decide) rfl ?_
  refine n_iload_n 0 hG dL_law_22 rfl rfl ?_
  refine n_if_ge (tgt := 28) hG dL_law_23 (by decide) (fun _ => ?_) (fun q9 => absurd (nI_pos' (by have := hb.1; omega)) q9)
  refine n_aload_n 2 hG dL_law_28 rfl rfl ?_
  refine w_slotCount hZ hR hLy hS.1 hS.2.1 (Nat.le_trans (by decide) hfR) (Nat.le_trans (by decide) hlR) (Nat.le_trans (show 531 + 0 ≤ 600130 by decide) hcR) (Nat.le_trans (show 45913 + 0 ≤ 7301080 by decide) hsR) (Nat.le_of_ble_eq_true rfl) dL_law_29 ?_
  show nW (nZ Z) (zInv Z (zext zF0 L1) I) 531 45913 [(3, .int (nI m)), (2, .ref bl), (1, .ref ((zext zF0 L1).1 0)), (0, .ref b)] [.int (nI n)] 32
  refine n_istore (lv' := [(4, .int (nI n)), (3, .int (nI m)), (2, .ref bl), (1, .ref ((zext zF0 L1).1 0)), (0, .ref b)]) hG dL_law_32 (by decide) rfl ?_
  refine n_iconst (nI 0) hG dL_law_34 (by decide) ?_
  refine n_istore (lv' := [(5, .int (nI 0)), (4, .int (nI n)), (3, .int (nI m)), (2, .ref bl), (1, .ref ((zext zF0 L1).1 0)), (0, .ref b)]) hG dL_law_35 (by decide) rfl ?_
  refine n_perm (lv' := [(5, .int (nI 0)), (4, .int (nI n)), (3, .int (nI m)), (0, .ref b), (1, .ref ((zext zF0 L1).1 0)), (2, .ref bl)]) [0, 1, 2, 5, 4, 3] rfl ?_
  have hn40 := hS.2.1.2.2.2.1.1.2.2
  have kend : ∀ (c s : Nat) (I' : zStore), LSt I' B N n → rMs I' B N n → OVp I' N n → c ≤ 10000 → s ≤ 100000 → nW (nZ Z) (zInv Z (zext zF0 L1) I') c s [(5, .int (nI N)), (4, .int (nI n)), (3, .int (nI m)), (0, .ref b), (1, .ref ((zext zF0 L1).1 0)), (2, .ref bl)] [] 197 := fun c s I' g1 g2 g3 hc hs => by
    refine n_iconst (nI 0) hG dL_law_197 (by decide) ?_
    refine n_istore (lv' := [(5, .int (nI 0)), (4, .int (nI n)), (3, .int (nI m)), (0, .ref b), (1, .ref ((zext zF0 L1).1 0)), (2, .ref bl)]) hG dL_law_198 (by decide) rfl ?_
    exact s_law_200 hZ hR hcR hsR hfR hlR hLy (kret (zext zF0 L1)) hN N 0 n m c s I' B (by omega) g1 g2 g3 hb (fun l hl => absurd hl (Nat.not_lt_zero l)) (by omega) (by omega)
  have loop : ∀ (d k c s : Nat) (I' : zStore), k + d = N → LSt I' B N n → rMs I' B N n → OVp I' N n → c + 243 * d ≤ 10000 → s + 1458 * d ≤ 100000 → nW (nZ Z) (zInv Z (zext zF0 L1) I') c s [(5, .int (nI k)), (4, .int (nI n)), (3, .int (nI m)), (0, .ref b), (1, .ref ((zext zF0 L1).1 0)), (2, .ref bl)] [] 37 := by
    intro d
    induction d with
    | zero =>
      intro k c s I' hk g1 g2 g3 hc hs
      have hkN : k = N := by omega
      subst hkN
      exact s_law_37e hZ hR hcR hsR hfR hlR hLy g1 g2 hN.2 hn40 hN.1 (by omega) (by omega) rfl (kend c s I' g1 g2 g3 (by omega) (by omega))
    | succ d ih =>
      intro k c s I' hk g1 g2 g3 hc hs
      exact s_law_37 hZ hR hcR hsR hfR hlR hLy g1 g2 (by omega) hN.2 hn40 hb (by omega) (by omega) (fun I2 h1 h2 h3 => ih (k + 1) (c + 243) (s + 1458) I2 (by omega) h1 h2 (h3 g3) (by omega) (by omega))
  exact loop N 0 531 45913 I (by omega) hS hM hO (by omega) (by omega)
end LY
