/-! the frame of build: the store, the array of lines beside it, a String -/
def bRefs (f : Nat → Option Nat) : vp_A := (8, .inr (.inr (.inr (.inr f))))
/-- what is known at the entry of build -/
def bG (Z : zCx) (F : zFr) (bl b L : Nat) (cS : ClassId) (xs : Nat → Int32) : Prop := match Z with
  | (p, l, e, R, s, m, args, below, meth, c, Q, A, n, D, cs) => A bl ∧ (∀ k, k < F.2.1 → F.1 k ≠ bl) ∧ (ArrOfT s cS (.object "java/lang/String") ∧ va_RA s cS (.object "java/lang/String")) ∧ va_AO "java/lang/String" s ∧ va_X b L xs s s.heap ∧ b < s.heap.size ∧ ¬ A b
/-- the invariant: p of the array's places, os of Strings outside -/
def bInv (Z : zCx) (F : zFr) (I : zStore) (bl : Nat) (cS : ClassId) (p : (Nat → Option Nat) → Prop) (os : List oSt) : Heap → List Loc → Prop := fun H locs => zInv Z F I H locs ∧ (∃ f, p f ∧ H[bl]? = some (vp_cell cS (bRefs f))) ∧ ∀ o ∈ os, oStr (fun q => zAd F H.size q ∨ q = bl) (nS (nZ Z)) H o.1 o.2.1 o.2.2
section BR
variable {Z : zCx} {F : zFr} {I : zStore} {bl b L : Nat} {cS : ClassId} {xs : Nat → Int32} {pf : (Nat → Option Nat) → Prop} {os : List oSt} {cells slots : Nat} {lv : zLv} {st stk : List Value} {pc : Nat} {own : String} {cc : ByteArray} {nL : Nat}
theorem bInv_ext (h : zOK Z own cc nL) : nExt (bInv Z F I bl cS pf os) := by
  intro H H1 locs L hJ h1 h2 h3
  obtain ⟨j1, ⟨f, j2, j3⟩, j4⟩ := hJ
  have hbl := (Array.getElem?_eq_some_iff.mp j3).1
  refine ⟨zInv_ext h H H1 locs L j1 h1 h2 h3, ⟨f, j2, by rw [h2 bl hbl]; exact j3⟩, fun o ho => ?_⟩
  refine ((j4 o ho).kept fun q hq hn => h2 q hq).narrow ?_
  rintro q ((⟨k, hk, e⟩ | hq) | e)
  · exact Or.inl (Or.inl ⟨k, hk, e⟩)
  · exact Or.inl (Or.inr (by omega))
  · exact Or.inr e
theorem bInv_scr (hB : bG Z F bl b L cS xs) : ∀ H locs, bInv Z F I bl cS pf os H locs → va_X b L xs (nS (nZ Z)) H := by
  obtain ⟨p, l, e, R, s, m, args, below, meth, c, Q, A, n, D, cs⟩ := Z
  obtain ⟨b1, b2, b3, b4, b5, b6, b7⟩ := hB
  intro H locs hJ
  exact b5.kept (hJ.1.2.2.2.1 b b6 b7)
theorem b_len (hG : zOK Z own cc nL) (hd : decode cc pc = .ok (.arraylength, 1)) (hB : bG Z F bl b L cS xs) (kk : nW (nZ Z) (bInv Z F I bl cS pf os) cells slots lv (.int (nI 8) :: st) (pc + 1)) : nW (nZ Z) (bInv Z F I bl cS pf os) cells slots lv (.ref bl :: st) pc := by
  obtain ⟨p, l, e, R, s, m, args, below, meth, c, Q, A, n, D, cs⟩ := Z
  intro hc hs H locs ls hJ hl
  obtain ⟨j1, ⟨f, j2, j3⟩, j4⟩ := id hJ
  obtain ⟨g1, g2, g3, g4, g5, g6, g7, g8, g9, g10, g11⟩ := hG
  obtain ⟨b1, b2, b3, b4, b5, b6, b7⟩ := hB
  refine W.alen (n := nI 8) g1 g2 j3 (b3.1 8 (fun j => va_rf (f j))) ?_ rfl rfl hd (kk hc hs H locs ls hJ hl)
  show (arrV _ _ _).slots.size.toInt32 = _
  rw [arrV_size]
  rfl
theorem b_get {i a : Nat} (hG : zOK Z own cc nL) (hd : decode cc pc = .ok (.aaload, 1)) (hB : bG Z F bl b L cS xs) (hi : i < 8) (hf : ∀ f, pf f → f i = some a) (kk : nW (nZ Z) (bInv Z F I bl cS pf os) cells slots lv (.ref a :: st) (pc + 1)) : nW (nZ Z) (bInv Z F I bl cS pf os) cells slots lv (.int (nI i) :: .ref bl :: st) pc := by
  obtain ⟨p, l, e, R, s, m, args, below, meth, c, Q, A, n, D, cs⟩ := Z
  intro hc hs H locs ls hJ hl
  obtain ⟨j1, ⟨f, j2, j3⟩, j4⟩ := id hJ
  obtain ⟨g1, g2, g3, g4, g5, g6, g7, g8, g9, g10, g11⟩ := hG
  obtain ⟨b1, b2, b3, b4, b5, b6, b7⟩ := hB
  have e1 : (nI i).toNatClampNeg = i := nI_clamp (by omega)
  have hsz : (vp_cell cS (bRefs f)).slots.size = 8 := by
    show (arrV cS 8 (fun j => va_rf (f j))).slots.size = _
    rw [arrV_size]
  refine W.aald (v := .ref a) (ty := .object "java/lang/String") g1 g2 j3 (b3.1 8 (fun j => va_rf (f j))) rfl (fun q => by cases q) (by rw [hsz]; exact nI_in hi (by decide)) ?_ rfl rfl hd (kk hc hs H locs ls hJ hl)
  show (arrV cS 8 (fun j => va_rf (f j))).slots[_]? = _
  rw [e1, arrV_read _ _ hi, hf f j2]
  rfl
theorem b_put {i a va : Nat} {bs : List Nat} (hG : zOK Z own cc nL) (hd : decode cc pc = .ok (.aastore, 1)) (hB : bG Z F bl b L cS xs) (hi : i < 8) (ho : (a, va, bs) ∈ os) (kk : nW (nZ Z) (bInv Z F I bl cS (fun f => f i = some a) os) cells slots lv st (pc + 1)) : nW (nZ Z) (bInv Z F I bl cS pf os) cells slots lv (.ref a :: .int (nI i) :: .ref bl :: st) pc := by
  obtain ⟨p, l, e, R, s, m, args, below, meth, c, Q, A, n, D, cs⟩ := Z
  intro hc hs H locs ls hJ hl
  obtain ⟨⟨hP, hD, hS⟩, ⟨f, j2, j3⟩, j4⟩ := hJ
  obtain ⟨g1, g2, g3, g4, g5, g6, g7, g8, g9, g10, g11⟩ := hG
  obtain ⟨b1, b2, ⟨b3, b3'⟩, b4, b5, b6, b7⟩ := hB
  have e1 : (nI i).toNatClampNeg = i := nI_clamp (by omega)
  have hin : vp_in (nI i) 8 := nI_in hi (by decide)
  have h0 : ¬ nI i < 0 := fun q => hin (Or.inl q)
  obtain ⟨cellV, c1, c3, c2, -⟩ := (j4 _ ho).1
  obtain ⟨kA, comp, k1, k2, k3, -⟩ := b3'
  obtain ⟨kE, hkE, -⟩ := Vm.findClass_spec k3
  replace c2 : s.vm.findClass "java/lang/String" = some cellV.cls := c2
  obtain ⟨kC, hkC, -⟩ := Vm.findClass_spec c2
  refine W.aast g1 g2 j3 (fun q h => by cases h) (fun h => by cases h) k1 k2 rfl hkE ⟨h0, by show _ < (arrV cS 8 (fun j => va_rf (f j))).slots.size; rw [arrV_size, e1]; exact hi⟩ c1 (fun q h => by rw [h] at c3; cases c3) hkC (vb_asgS _ _ k3 c2) rfl rfl hd fun H1 e z oq => ?_
  have hne : ∀ (k : Nat) (q : Nat × va_E), (zws cs F I)[k]? = some q → q.1 ≠ bl := fun k q hk => by
    have h1 := (List.getElem?_eq_some_iff.mp hk).1
    rw [zws_len] at h1
    rw [zws_get h1] at hk
    cases hk
    exact b2 k h1
  refine kk hc hs H1 _ ls ⟨⟨hP.kept fun k q hk => oq q.1 (hne k q hk), hD, hS.put z oq b1⟩, ⟨va_up f i (some a), by simp [va_up], ?_⟩, fun o' ho' => ?_⟩ hl
  · rw [e]
    show some ((arrV cS 8 (fun j => va_rf (f j))).setSlot _ _) = some (arrV cS 8 (fun j => va_rf (va_up f i (some a) j)))
    rw [arrV_store, e1]
    congr 2
    funext q
    by_cases hq : q = i
    · subst hq
      simp [updV, va_up, va_rf]
    · simp [updV, va_up, hq]
  · refine ((j4 o' ho').kept fun q hq hn => oq q (fun e => hn (Or.inr e))).narrow ?_
    rintro q ((⟨k, hk, e⟩ | hq) | e)
    · exact Or.inl (Or.inl ⟨k, hk, e⟩)
    · exact Or.inl (Or.inr (by omega))
    · exact Or.inr e
/-- a line is made -/
theorem b_line {x : Int32} {index : Nat} {rmG : Room} (hG : zOK Z own cc nL) (hRm : zRoom Z rmG) (hB : bG Z F bl b L cS xs) (hl : zWd (.methodLink own index yL_line)) (hi : zWd (.static yL_line)) (hiS : zWd (.instantiable RJ0 4)) (hiB : zWd (.instantiable RJ4 4)) (hab : zWd (.arrayClass .byte)) (hf : 11 ≤ rmG.frames) (hlo : 426 ≤ rmG.locals) (hce : cells + 43 ≤ rmG.cells) (hsl : slots + 4803 ≤ rmG.slots) (hcat : (st.map fun v => v.category).sum ≤ 8) (hd : decode cc pc = .ok (.invokestatic index, 3))
    (kk : ∀ o : oSt, zPline o.2.2 → nW (nZ Z) (bInv Z F I bl cS pf [o]) (cells + 43) (slots + 4803) lv (.ref o.1 :: st) (pc + 3)) : nW (nZ Z) (bInv Z F I bl cS pf []) cells slots lv (.int (nI 24) :: .int x :: st) pc := by
  have hN := zN_ok hG
  have hG' := hG
  obtain ⟨p, l, e, R, s, m, args, below, meth, c, Q, A, n, D, cs⟩ := Z
  obtain ⟨g1, g2, g3, g4, g5, g6, g7, g8, g9, g10, g11⟩ := hG
  obtain ⟨b1, b2, b3, b4, b5, b6, b7⟩ := hB
  obtain ⟨adK, adV, hT⟩ := zTexts.ex g8.2.2
  obtain ⟨c0, i0, k0⟩ := jTabs g7 ycl0.2.1 hiS
  obtain ⟨c1, i1, k1⟩ := jTabs g7 ycl1.2.1 hiB
  obtain ⟨cB, hB, nB⟩ := j_arr (g7.at hab #[])
  have hKn : va_K (fun k => if k = 0 then c0 else c1, fun k => if k = 0 then i0 else i1) jCl [(cB, .byte)] s := by
    refine ⟨fun k q hq => ?_, fun k q hq => ?_⟩
    · match k, hq with
      | 0, hq => cases hq; exact k0
      | 1, hq => cases hq; exact k1
      | k + 2, hq => simp at hq
    · match k, hq with
      | 0, hq => cases hq; exact ⟨hB, nB⟩
      | k + 1, hq => simp at hq
  refine n_callSu (J' := fun r H1 locs1 => ∃ o : oSt, (r = some (.ref o.1) ∧ zPline o.2.2) ∧ bInv (p, l, e, R, s, m, args, below, meth, c, Q, A, n, D, cs) F I bl cS pf [o] H1 locs1) [.int x, .int (nI 24)] hN (zN_rm hRm) ?_ (fun H locs hJ U hU hW => ?_) (c_L_line (D := (fun k => if k = 0 then c0 else c1, fun k => if k = 0 then i0 else i1)) (cB := cB) (adK := adK) (adV := adV)) hd_L_line hl hi (by show 10 + 1 ≤ _; omega) (by show 8 + (7 + 11) + 400 ≤ _; omega) hce hsl rfl rfl hcat hd (fun r H H1 locs L hJ hp h1 h2 h3 => ?_) (fun r => n_ex fun o => n_pure fun hr => ?_)
  · intro sz a U g mk h
    exact ⟨va_K.moved (u := U) (U := U.calling g mk a) (Vm.Alike.refl U.vm) h.1, h.2.1.moved (u := U) (U := U.calling g mk a) (State.WarmedH.refl U), va_AO.moved (u := U) (U := U.calling g mk a) (Vm.Alike.refl U.vm) h.2.2⟩
  · have hS := hJ.1.2.2
    refine ⟨va_K.moved hW.alike hKn, ?_, va_AO.moved hW.alike b4⟩
    rw [hU]
    exact ((hT.kept hS.2.1).moved hW).narrow (fun q hq => g10 q (Nat.le_trans hS.1 hq))
  · obtain ⟨o, hr, hz, ho⟩ := hp
    have hJ1 := bInv_ext hG' (F := F) (I := I) (bl := bl) (cS := cS) (pf := pf) (os := []) H H1 locs L hJ h1 h2 h3
    obtain ⟨⟨hP1, hD1, hS1⟩, ⟨f, jf, jc⟩, -⟩ := hJ1
    obtain ⟨⟨hP0, hD0, hS0⟩, ⟨f0, jf0, jc0⟩, -⟩ := hJ
    refine ⟨o, ⟨hr, hz⟩, ⟨hP1, hD1, hS1⟩, ⟨f, jf, jc⟩, fun o' ho' => ?_⟩
    cases List.mem_singleton.mp ho'
    rcases ho with rfl | ⟨o1, o2, o3⟩
    · refine ((hT.2.2 15 (by decide)).1.kept hS1.2.1).narrow ?_
      rintro q ((⟨k, hk, e⟩ | hq) | e)
      · rw [e]
        exact zD_in hD1 hk
      · exact g10 q (Nat.le_trans hS1.1 hq)
      · rw [e]
        exact b1
    · obtain ⟨g, hg, hPo⟩ := o3
      have hF : ∀ k, k < F.2.1 → F.1 k < H.size := fun k hk => (hP0 k _ (zws_get hk)).lt
      have hbl := (Array.getElem?_eq_some_iff.mp jc0).1
      have nA : ∀ q, H.size ≤ q → q < H1.size → ¬ (zAd F H1.size q ∨ q = bl) := by
        rintro q hq1 hq2 ((⟨k, hk, e⟩ | hq) | e)
        · have := hF k hk
          omega
        · omega
        · omega
      exact oStr.of g7 hKn hPo rfl hg (nA _ o1 (hPo 0 _ rfl).lt) (nA _ o2 (hPo 1 _ rfl).lt)
  · obtain ⟨rfl, hz⟩ := hr
    exact kk o hz
/-- the law's store is called -/
theorem b_store {B : zStore} {N n0 index : Nat} {o : oSt} {rmG : Room} (hG : zOK Z own cc nL) (hRm : zRoom Z rmG) (hL : zLay F) (hB : bG Z F bl b L cS xs) (hS : LSt I B N n0) (hN : N < 12) (hpl : zPline o.2.2) (hl : zWd (.methodLink own index yL_store)) (hi : zWd (.static yL_store)) (hf : 11 ≤ rmG.frames) (hlo : 326 ≤ rmG.locals) (hce : cells + 4 ≤ rmG.cells) (hsl : slots + 24 ≤ rmG.slots) (hcat : (st.map fun v => v.category).sum ≤ 8) (hd : decode cc pc = .ok (.invokestatic index, 3))
    (kk : ∀ I' B' : zStore, LSt I' B' (N + 1) n0 → B' 119 0 = B 119 0 → nW (nZ Z) (bInv Z F I' bl cS pf []) (cells + 4) (slots + 24) lv (.int 1 :: st) (pc + 3)) : nW (nZ Z) (bInv Z F I bl cS pf [o]) cells slots lv (.int (nI N) :: .ref o.1 :: .ref (F.1 0) :: st) pc := by
  obtain ⟨p, l, e, R, s, m, args, below, meth, c, Q, A, n, D, cs⟩ := Z
  intro hc hs H locs ls hJ hl2
  have r1 := hRm.1
  have r2 := hRm.2.1
  have r3 := hRm.2.2.1
  have r4 := hRm.2.2.2
  have hG' := hG
  obtain ⟨g1, g2, g3, g4, g5, g6, g7, g8, g9, g10, g11⟩ := hG
  obtain ⟨⟨hP, hD, hSv⟩, ⟨f, jf, jc⟩, jo⟩ := hJ
  have hbd : o.2.2.length ≤ 24 ∧ ∀ b ∈ o.2.2, 32 ≤ b ∧ b < 127 := by
    obtain ⟨k, -, hk⟩ := hpl
    exact zPl_b hk
  have hoS := (jo o (List.mem_singleton.mpr rfl)).narrow (B := zAd F H.size) (fun q hq => Or.inl hq)
  have hr := va_runS (l := l) (p := p) (e := e) (R := R) (s := s) (m := m) (args := args) (below := below) (meth := meth) (c := c) (H := H) (locs := locs) (cells := cells) (slots := slots) (g := F0 m pc ls (.int (nI N) :: .ref o.1 :: .ref (F.1 0) :: st)) (rest := st) (As := [.ref (F.1 0), .ref o.1, .int (nI N)]) (Ts := []) ⟨g1, g2, g4, g3, fun w (hw : w ∈ []) => (List.not_mem_nil hw).elim⟩ (c_L_store (a := o.1) (va := o.2.1) hL hS hN hbd.2 hbd.1 hpl l D cs g11 H.size) ⟨zCallB hG' hd_L_store hl ⟨by show 10 + 1 ≤ _; omega, by show 8 + (7 + 11) + 300 ≤ _; omega⟩, g7.at hi _⟩ ⟨sPre_blind, fun U hU hW => ⟨rfl, (zWo_in hG' hP hD hSv hU hW).1, (zWo_in hG' hP hD hSv hU hW).2, by rw [hU]; exact hoS.moved hW.alike⟩⟩ rfl rfl hl2.1 rfl (lv_room hcat) hd ⟨by show cells + 4 ≤ _; omega, by show slots + 24 ≤ _; omega⟩
  intro T hT X
  obtain ⟨v, st₀, t, T', L', h0, X', hL', e1, e2, ⟨⟨r, u, hv, hp, hb⟩, hF⟩, stp⟩ := hr T hT X
  cases hv
  obtain ⟨rfl, B', hS', hB'⟩ := hp
  obtain ⟨k1, k2, k3⟩ := vx_keep h0 e1 hSv (fun q _ h => zAd_in (G := (p, l, e, R, s, m, args, below, meth, c, Q, A, n, D, cs)) hG' hD hSv q h) (zAd_in (G := (p, l, e, R, s, m, args, below, meth, c, Q, A, n, D, cs)) hG' hD hSv) hL' hF
  have hbl := (Array.getElem?_eq_some_iff.mp jc).1
  have nbl : ¬ zAd F H.size bl := by
    rintro (⟨k, hk, e⟩ | hq)
    · exact hB.2.1 k hk e.symm
    · omega
  have e3 : T'.heap[bl]? = H[bl]? := by rw [e1, hF.2 bl (by rw [h0]; exact hbl) nbl, h0]
  obtain ⟨t2, a1, c1⟩ := kk u B' hS' hB' (by omega) (by omega) T'.heap (locs ++ L') ls ⟨⟨by rw [e1]; exact hb, zD_of (zD_inj hD) (fun k hk => zD_in hD hk), k3⟩, ⟨f, jf, e3.trans jc⟩, fun o h => by simp at h⟩ hl2 T' rfl X'
  exact ⟨t2, stp t2 a1, c1⟩
/-- the lines are forgotten -/
theorem b_end (k : nW (nZ Z) (zInv Z F I) cells slots lv st pc) : nW (nZ Z) (bInv Z F I bl cS pf os) cells slots lv st pc := n_conv (fun H locs h => h.1) k
end BR
