theorem hd_L_below : zHead yL_below cL_below 2 2 (some .int) := ⟨kv419, kw0, by decide +kernel, by decide +kernel, by decide +kernel⟩
theorem hd_L_cell : zHead yL_cell cL_cell 2 2 (some .int) := ⟨kv415, kw0, by decide +kernel, by decide +kernel, by decide +kernel⟩
abbrev rm_L_below : Room := { frames := 0, cells := 0, slots := 0, locals := 0 }
theorem uBl_true : uBl (fun _ _ => True) := fun _ _ _ _ _ _ => trivial
theorem c_L_below {x : Int32} {N : Nat} (hN : 0 < N) (hN2 : N < 2 ^ 31) : ∀ (l : Launch), uMt l yL_below cL_below 2 (some .int) rm_L_below (fun _ _ => True) [.int x, .int (nI N)] (fun _ r _ => ∃ v, r = some (.int (nI v)) ∧ v < N) := by
  intro l
  obtain ⟨a, ha, ea⟩ := pk_andE x (m := 2147483647) 31 (by decide)
  refine uMt.ofI (by decide +kernel) (Nat.le_of_ble_eq_true rfl) fun G hG hR hB hE => ?_
  refine n_iload_n 0 hG dL_below_0 rfl rfl ?_
  refine n_ldc hG kv420 dL_below_1 ?_
  refine n_iand (z := nI a) hG dL_below_3 ea ?_
  refine n_iload_n 1 hG dL_below_4 rfl rfl ?_
  refine n_irem (z := nI (a % N)) hG dL_below_5 (nI_ne0 hN hN2) (pk_rem ha hN hN2) ?_
  exact hE _ _ _ _ dL_below_6 (fun H _ => ⟨a % N, rfl, Nat.mod_lt _ hN⟩)
/-- the script, outside -/
def uScr (b L : Nat) (xs : Nat → Int32) (_ : Nat) (U : State) : Prop := va_X b L xs U U.heap
theorem uScr_bl {b L : Nat} {xs : Nat → Int32} : uBl (uScr b L xs) := by
  intro sz a U g mk h
  exact va_X.moved (u := U) (U := U.calling g mk a) (Vm.Alike.refl U.vm) h
theorem n_scrLen {G : nCx} {J : Heap → List Loc → Prop} {cells slots : Nat} {lv : zLv} {st : List Value} {pc : Nat} {own : String} {cc : ByteArray} {nL b L : Nat} {xs : Nat → Int32} (hG : nOK G own cc nL) (hX : ∀ H locs, J H locs → va_X b L xs (nS G) H) (hd : decode cc pc = .ok (.arraylength, 1)) (k : nW G J cells slots lv (.int (nI L) :: st) (pc + 1)) : nW G J cells slots lv (.ref b :: st) pc := by
  obtain ⟨p, l, e, R, s, m, args, below, meth, c, Q, nn⟩ := G
  intro hc hs H locs ls hJ hl
  obtain ⟨scr, h1, h2, h3, h4, h5⟩ := hX H locs hJ
  exact W.alen (n := Int32.ofNat L) hG.1 hG.2.1 h1 h2 (by rw [h4] <;> rfl) rfl rfl hd (k hc hs H locs ls hJ hl)
theorem n_scrGet {G : nCx} {J : Heap → List Loc → Prop} {cells slots : Nat} {lv : zLv} {st : List Value} {pc : Nat} {own : String} {cc : ByteArray} {nL b L i : Nat} {xs : Nat → Int32} (hG : nOK G own cc nL) (hX : ∀ H locs, J H locs → va_X b L xs (nS G) H) (hi : i < L) (hL : L < 2 ^ 31) (hd : decode cc pc = .ok (.iaload, 1)) (k : nW G J cells slots lv (.int (xs i) :: st) (pc + 1)) : nW G J cells slots lv (.int (nI i) :: .ref b :: st) pc := by
  obtain ⟨p, l, e, R, s, m, args, below, meth, c, Q, nn⟩ := G
  intro hc hs H locs ls hJ hl
  obtain ⟨scr, h1, h2, h3, h4, h5⟩ := hX H locs hJ
  have e1 : (nI i).toNatClampNeg = i := nI_clamp (by omega)
  exact W.iald (v := .int (xs i)) hG.1 hG.2.1 h1 h2 h3 (by rw [h4]; exact nI_in hi hL) (by rw [e1]; exact h5 _ hi) rfl rfl hd (k hc hs H locs ls hJ hl)
abbrev rm_L_cell : Room := { frames := 0, cells := 0, slots := 0, locals := 0 }
theorem c_L_cell {b L i : Nat} {xs : Nat → Int32} (hL : L < 2 ^ 31) (hi : i < 2 ^ 31) : ∀ (l : Launch), uMt l yL_cell cL_cell 2 (some .int) rm_L_cell (uScr b L xs) [.ref b, .int (nI i)] (fun _ r _ => ∃ x, r = some (.int x)) := by
  intro l
  refine uMt.ofI (by decide +kernel) (Nat.le_of_ble_eq_true rfl) fun G hG hR hB hE => ?_
  have hX : ∀ H locs, uJ G (fun H => H = (nS G).heap) H locs → va_X b L xs (nS G) H := fun H locs h => by
    rw [h.2]
    exact hB
  refine n_iload_n 1 hG dL_cell_0 rfl rfl ?_
  refine n_aload_n 0 hG dL_cell_1 rfl rfl ?_
  refine n_scrLen hG hX dL_cell_2 ?_
  show nW G (uJ G (fun H => H = (nS G).heap)) 0 0 [(0, .ref b), (1, .int (nI i))] [.int (nI L), .int (nI i)] 3
  refine n_icmp_ge (tgt := 12) hG dL_cell_3 (by decide) (fun q3 => ?_) (fun q3 => ?_)
  · refine n_ldc hG kv416 dL_cell_12 ?_
    refine n_iload_n 1 hG dL_cell_14 rfl rfl ?_
    refine n_iconst 3 hG dL_cell_15 (by decide) ?_
    refine n_iadd (z := nI i + 3) hG dL_cell_16 rfl ?_
    refine n_imul (z := 790386105 * (nI i + 3)) hG dL_cell_17 rfl ?_
    exact hE _ _ _ _ dL_cell_18 (fun H _ => ⟨_, rfl⟩)
  · refine n_aload_n 0 hG dL_cell_6 rfl rfl ?_
    refine n_iload_n 1 hG dL_cell_7 rfl rfl ?_
    refine n_scrGet hG hX (by rw [nI_leI (by omega) (by omega)] at q3; omega) hL dL_cell_8 ?_
    show nW G (uJ G (fun H => H = (nS G).heap)) 0 0 [(0, .ref b), (1, .int (nI i))] [.int (xs i)] 9
    refine n_goto (tgt := 18) hG dL_cell_9 (by decide) ?_
    exact hE _ _ _ _ dL_cell_18 (fun H _ => ⟨_, rfl⟩)
theorem hd_J0_charAt_5068e : zHead yJ0_charAt_5068e cJ0_charAt_5068e 2 1 (some .char) := ⟨kv658, kv5, by decide +kernel, by decide +kernel, by decide +kernel⟩
section UD
variable {G : nCx} {J : Heap → List Loc → Prop} {cells slots : Nat} {lv lv' : zLv} {st : List Value} {pc : Nat} {own : String} {cc : ByteArray} {nL : Nat}
theorem n_below {x : Int32} {N index : Nat} {rmG : Room} (hG : nOK G own cc nL) (hRm : nRoom G rmG) (hx : nExt J) (hl : zWd (.methodLink own index yL_below)) (hN : 0 < N) (hN2 : N < 2 ^ 31) (hf : 1 ≤ rmG.frames) (hlo : 21 ≤ rmG.locals) (hcat : (st.map fun v => v.category).sum ≤ 8) (hd : decode cc pc = .ok (.invokestatic index, 3))
    (hce : cells ≤ rmG.cells) (hsl : slots ≤ rmG.slots) (kk : ∀ v, v < N → nW G J cells slots lv (.int (nI v) :: st) (pc + 3)) : nW G J cells slots lv (.int (nI N) :: .int x :: st) pc := by
  refine n_callSu (J' := fun r H locs => (∃ v, r = some (.int (nI v)) ∧ v < N) ∧ J H locs) [.int x, .int (nI N)] hG hRm uBl_true (fun _ _ _ _ _ _ => trivial) (c_L_below hN hN2) hd_L_below hl kv418 (by show 0 + 1 ≤ _; omega) (by show 8 + (2 + 11) + 0 ≤ _; omega) hce hsl rfl rfl hcat hd (fun r H H1 locs L hJ hp h1 h2 h3 => ⟨hp, hx H H1 locs L hJ h1 h2 h3⟩) (fun r => n_pure fun hp => ?_)
  obtain ⟨v, rfl, hv⟩ := hp
  exact kk v hv
theorem n_cell {b L i index : Nat} {xs : Nat → Int32} {rmG : Room} (hG : nOK G own cc nL) (hRm : nRoom G rmG) (hx : nExt J) (hX : ∀ H locs, J H locs → va_X b L xs (nS G) H) (hl : zWd (.methodLink own index yL_cell)) (hL : L < 2 ^ 31) (hi : i < 2 ^ 31) (hf : 1 ≤ rmG.frames) (hlo : 21 ≤ rmG.locals) (hcat : (st.map fun v => v.category).sum ≤ 8) (hd : decode cc pc = .ok (.invokestatic index, 3))
    (hce : cells ≤ rmG.cells) (hsl : slots ≤ rmG.slots) (kk : ∀ x, nW G J cells slots lv (.int x :: st) (pc + 3)) : nW G J cells slots lv (.int (nI i) :: .ref b :: st) pc := by
  refine n_callSu (J' := fun r H locs => (∃ x, r = some (.int x)) ∧ J H locs) [.ref b, .int (nI i)] hG hRm uScr_bl (fun H locs hJ U hU hW => ?_) (c_L_cell (b := b) (L := L) (xs := xs) hL hi) hd_L_cell hl kv414 (by show 0 + 1 ≤ _; omega) (by show 8 + (2 + 11) + 0 ≤ _; omega) hce hsl rfl rfl hcat hd (fun r H H1 locs L hJ hp h1 h2 h3 => ⟨hp, hx H H1 locs L hJ h1 h2 h3⟩) (fun r => n_pure fun hp => ?_)
  · show va_X b L xs U U.heap
    rw [hU]
    exact (hX H locs hJ).moved hW.alike
  · obtain ⟨x, rfl⟩ := hp
    exact kk x
/-! a String outside: its length, its letters -/
def nStr (G : nCx) (J : Heap → List Loc → Prop) (o : oSt) : Prop := ∀ H locs, J H locs → oOut [o] (fun q => H.size ≤ q) (nS G) H
theorem oOut_bl {os : List oSt} : uBl (fun sz U => oOut os (fun q => sz ≤ q) U U.heap) := fun sz a U g mk h => h.moved (u := U) (U := U.calling g mk a) (Vm.Alike.refl U.vm)
theorem n_len {a va index : Nat} {bs : List Nat} {rmG : Room} (hG : nOK G own cc nL) (hRm : nRoom G rmG) (hx : nExt J) (ho : nStr G J (a, va, bs)) (hl : zWd (.methodLink own index yJ0_length_8abf5)) (hf : 2 ≤ rmG.frames) (hlo : 40 ≤ rmG.locals) (hcat : (st.map fun v => v.category).sum ≤ 8) (hd : decode cc pc = .ok (.invokevirtual index, 3))
    (hce : cells ≤ rmG.cells) (hsl : slots ≤ rmG.slots) (kk : nW G J cells slots lv (.int (nI bs.length) :: st) (pc + 3)) : nW G J cells slots lv (.ref a :: st) pc := by
  refine n_callVu (J' := fun r H locs => r = some (.int (nI bs.length)) ∧ J H locs) [] hG hRm oOut_bl (fun H locs hJ U hU hW => ?_) (fun H locs hJ => ⟨_, ((ho H locs hJ).2.2 _ (List.mem_singleton.mpr rfl)).1⟩) (fun l => uMt.ofY (os := [(a, va, bs)]) kv596 kv454 kw68 (fun D cB => c_J0_length_8abf5 (List.mem_singleton.mpr rfl) l D) (fun _ r w H h => (h.1 : r = some (.int (nI bs.length))))) hd_J0_length_8abf5 hl kv444 kv445 (by show 1 + 1 ≤ _; omega) (by show 8 + (1 + 11) + 20 ≤ _; omega) hce hsl rfl rfl hcat hd (fun r H H1 locs L hJ hp h1 h2 h3 => ⟨hp, hx H H1 locs L hJ h1 h2 h3⟩) (fun r => n_pure fun hp => ?_)
  · show oOut _ _ U U.heap
    rw [hU]
    exact (ho H locs hJ).moved hW.alike
  · rw [hp]
    exact kk
theorem n_charAt {a va index i : Nat} {bs : List Nat} {rmG : Room} (hG : nOK G own cc nL) (hRm : nRoom G rmG) (hx : nExt J) (ho : nStr G J (a, va, bs)) (hi : i < bs.length) (hL : bs.length < 2 ^ 31) (hb : bs.getD i 0 < 128) (hl : zWd (.methodLink own index yJ0_charAt_5068e)) (hf : rm_J0_charAt_5068e.frames + 1 ≤ rmG.frames) (hlo : 8 + (2 + 11) + rm_J0_charAt_5068e.locals ≤ rmG.locals) (hcat : (st.map fun v => v.category).sum ≤ 8) (hd : decode cc pc = .ok (.invokevirtual index, 3))
    (hce : cells ≤ rmG.cells) (hsl : slots ≤ rmG.slots) (kk : nW G J cells slots lv (.int (nI (bs.getD i 0)) :: st) (pc + 3)) : nW G J cells slots lv (.int (nI i) :: .ref a :: st) pc := by
  refine n_callVu (J' := fun r H locs => r = some (.int (nI (bs.getD i 0))) ∧ J H locs) [.int (nI i)] hG hRm oOut_bl (fun H locs hJ U hU hW => ?_) (fun H locs hJ => ⟨_, ((ho H locs hJ).2.2 _ (List.mem_singleton.mpr rfl)).1⟩) (fun l => uMt.ofY (os := [(a, va, bs)]) kv596 kv454 kw68 (fun D cB => c_J0_charAt_5068e (List.mem_singleton.mpr rfl) hi hL hb l D) (fun _ r w H h => (h.1 : r = some (.int (nI (bs.getD i 0)))))) hd_J0_charAt_5068e hl kv656 kv657 hf hlo hce hsl rfl rfl hcat hd (fun r H H1 locs L hJ hp h1 h2 h3 => ⟨hp, hx H H1 locs L hJ h1 h2 h3⟩) (fun r => n_pure fun hp => ?_)
  · show oOut _ _ U U.heap
    rw [hU]
    exact (ho H locs hJ).moved hW.alike
  · rw [hp]
    exact kk
end UD
