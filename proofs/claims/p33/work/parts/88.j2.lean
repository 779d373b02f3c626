/-! the walks: written by wip/p33/yj.py -/
abbrev jB (b v n : Nat) : Nat × va_E := (b, .inr (1, [.ref v, .int 0, .int 0, .int (nI n)]))
abbrev jA (cB : ClassId) (v N : Nat) (g : Nat → Int32) : Nat × va_E := (v, .inl (cB, N, .inl g))
abbrev jO (ci r : Nat) : Nat × va_E := (r, .inr (ci, [.null, .int 0, .int 0, .int 0]))
abbrev jS (r x : Nat) : Nat × va_E := (r, .inr (0, [.ref x, .int 0, .int 0, .int 0]))
theorem jshr (x : Int32) : x >>> ((0 : Int32) &&& 31) = x := by simp
theorem jshl (x : Int32) : x <<< ((0 : Int32) &&& 31) = x := by simp
theorem jle0 {q N : Nat} (h : q ≤ N) (hN : N < 2 ^ 30) : nI q - nI N ≤ 0 := by
  rw [Int32.le_iff_toInt_le, pk_sub_toInt (by omega) hN, Int32.toInt_zero]
  omega
theorem jnle0 {q N : Nat} (h : N < q) (hN : q < 2 ^ 30) : ¬ nI q - nI N ≤ 0 := by
  rw [Int32.le_iff_toInt_le, pk_sub_toInt hN (by omega), Int32.toInt_zero]
  omega
section YS
variable {G : yCx} {ws ws' : va_W} {cells slots : Nat} {lv : zLv} {st : List Value} {pc : Nat} {own : String} {cc : ByteArray} {nL : Nat}
/-- a part of the world is enough -/
theorem y_sub (is : List Nat) (hn : va_nd is = true) (hs : is.map (fun i => ws[i]?) = ws'.map some) (k : yW G ws' cells slots lv st pc) : yW G ws cells slots lv st pc := by
  obtain ⟨p, l, e, R, s, m, args, below, meth, c, Q, A, nn, D, cB, os⟩ := G
  intro hc hs2 H locs ls hP hD hS hl
  have hf : is.filterMap (fun i => ws[i]?) = ws' := by
    have h1 : is.filterMap (fun i => ws[i]?) = (is.map (fun i => ws[i]?)).filterMap id := by rw [List.filterMap_map]; rfl
    rw [h1, hs, List.filterMap_map]
    exact List.filterMap_some
  exact k hc hs2 H locs ls (hP.sub is hf) (hD.sub is hn hs) hS hl
theorem y_clone {index a N : Nat} {f : Nat → Int32} {rm : Room} {cB : ClassId} {os : List oSt} (q0 : Nat) (hG : yOK G own cc nL) (hC : yCb G cB os) (hRm : yRoom G rm) (hl : zWd (.methodLink own index ⟨"[B", "clone", "()Ljava/lang/Object;"⟩)) (hsm : zWd (.sameMethod "[B" "java/lang/Object" "clone" "()Ljava/lang/Object;")) (hna : zWd (.native ⟨"java/lang/Object", "clone", "()Ljava/lang/Object;"⟩)) (hin : zWd (.instanceMethod ⟨"java/lang/Object", "clone", "()Ljava/lang/Object;"⟩)) (hse : zWd (.selects "[B" ⟨"[B", "clone", "()Ljava/lang/Object;"⟩ ⟨"java/lang/Object", "clone", "()Ljava/lang/Object;"⟩)) (hca : (Cond.castable "[B" "java/lang/Cloneable") ∈ lw_tbl ∧ zst (Cond.castable "[B" "java/lang/Cloneable") = true)
    (ha : ws[q0]? = some (a, .inl (cB, N, .inl f))) (hfit : ∀ j, fits .byte (.int (f j)) = true) (hfr : 1 ≤ rm.frames) (hlo : (st.map fun v => v.category).sum + 14 ≤ rm.locals) (hce : cells + 1 ≤ rm.cells) (hsl : slots + N ≤ rm.slots) (hd : decode cc pc = .ok (.invokevirtual index, 3))
    (kk : ∀ x, yW G (ws ++ [(x, .inl (cB, N, .inl f))]) (cells + 1) (slots + N) lv (.ref x :: st) (pc + 3)) : yW G ws cells slots lv (.ref a :: st) pc := by
  obtain ⟨p, l, e, R, s, m, args, below, meth, c, Q, A, nn, D, cB', os'⟩ := G
  intro hc hs H locs ls hP hD hS hl2
  obtain ⟨g1, g2, g3, g4, g5, g6, g7, g8, g9⟩ := hG
  obtain ⟨hC1, hC2⟩ := hC
  subst hC1
  have r1 := hRm.1
  have r2 := hRm.2.1
  have r3 := hRm.2.2.1
  have r4 := hRm.2.2.2
  have hnm : s.vm.findClass "[B" = some cB' := (g6.2 0 _ rfl).2
  refine va_clone (x := (N, .inl f)) g1 g2 (g4.trans hl2.1.symm) g3 (g7.at hl _) (g7.at hsm _) (g7.at hna _) (g7.at hin _) (g7.at hse _) (g7.at hca _) g6 hP hD hS g9 q0 0 ha rfl hnm (fun i v hv => ?_) (by omega) (by omega) (by omega) (by show slots + N ≤ _; omega) hd (fun q H1 _ hP1 hD1 hS1 => kk q (by omega) (by show slots + N ≤ _; omega) H1 locs ls hP1 hD1 hS1 hl2)
  have hlt : i < N := by
    have := (Array.getElem?_eq_some_iff.mp hv).1
    rw [vp_cell_i, arrV_size] at this
    exact this
  rw [vp_cell_i, arrV_read _ _ hlt] at hv
  cases hv
  exact hfit i
theorem y_castB {index a N : Nat} {f : Nat → Int32} {cB : ClassId} {os : List oSt} (q0 : Nat) (hG : yOK G own cc nL) (hC : yCb G cB os) (hlk : zWd (.classLink own index "[B")) (ha : ws[q0]? = some (a, .inl (cB, N, .inl f))) (hd : decode cc pc = .ok (.checkcast index, 3)) (kk : yW G ws cells slots lv (.ref a :: st) (pc + 3)) : yW G ws cells slots lv (.ref a :: st) pc := by
  obtain ⟨p, l, e, R, s, m, args, below, meth, c, Q, A, nn, D, cB', os'⟩ := G
  intro hc hs H locs ls hP hD hS hl2
  obtain ⟨g1, g2, g3, g4, g5, g6, g7, g8, g9⟩ := hG
  obtain ⟨hC1, hC2⟩ := hC
  subst hC1
  exact va_castA g1 g2 g3 (g7.at hlk _) hP q0 ha (g6.2 0 _ rfl).2 hd (kk hc hs H locs ls hP hD hS hl2)
end YS
abbrev rm_J0_coder_7d493 : Room := { frames := 0, cells := 0, slots := 0, locals := 0 }
set_option maxRecDepth 100000 in
theorem c_J0_coder_7d493 {cB : ClassId} {os : List oSt} {ws : va_W} {a va : Nat} {bs : List Nat} (ho : (a, va, bs) ∈ os) : ∀ (l : Launch) (D : va_G), yMt l yJ0_coder_7d493 cJ0_coder_7d493 1 (some .byte) rm_J0_coder_7d493 D cB ws os [.ref a] (fun r w => r = some (.int 0) ∧ w = ws) := by
  intro l D
  refine yMt.ofN (by decide +kernel) (Nat.le_of_ble_eq_true rfl) fun G hG hR hN hC hE => ?_
  refine y_compact hG kv451 dJ0_coder_7d493_0 ?_
  refine y_if_eq (tgt := 13) hG dJ0_coder_7d493_3 (by decide) (fun q9 => absurd q9 (by decide)) (fun _ => ?_)
  refine y_aload_n 0 hG dJ0_coder_7d493_6 rfl rfl ?_
  refine y_scod hG hC ho kv641 dJ0_coder_7d493_7 ?_
  refine y_goto (tgt := 14) hG dJ0_coder_7d493_10 (by decide) ?_
  exact hE _ _ _ _ dJ0_coder_7d493_14 rfl ⟨rfl, rfl⟩
abbrev rm_J0_isLatin1_aae02 : Room := { frames := 0, cells := 0, slots := 0, locals := 0 }
set_option maxRecDepth 100000 in
theorem c_J0_isLatin1_aae02 {cB : ClassId} {os : List oSt} {ws : va_W} {a va : Nat} {bs : List Nat} (ho : (a, va, bs) ∈ os) : ∀ (l : Launch) (D : va_G), yMt l yJ0_isLatin1_aae02 cJ0_isLatin1_aae02 1 (some .boolean) rm_J0_isLatin1_aae02 D cB ws os [.ref a] (fun r w => r = some (.int 1) ∧ w = ws) := by
  intro l D
  refine yMt.ofN (by decide +kernel) (Nat.le_of_ble_eq_true rfl) fun G hG hR hN hC hE => ?_
  refine y_compact hG kv451 dJ0_isLatin1_aae02_0 ?_
  refine y_if_eq (tgt := 17) hG dJ0_isLatin1_aae02_3 (by decide) (fun q9 => absurd q9 (by decide)) (fun _ => ?_)
  refine y_aload_n 0 hG dJ0_isLatin1_aae02_6 rfl rfl ?_
  refine y_scod hG hC ho kv641 dJ0_isLatin1_aae02_7 ?_
  refine y_if_ne (tgt := 17) hG dJ0_isLatin1_aae02_10 (by decide) (fun q9 => absurd q9 (by decide)) (fun _ => ?_)
  refine y_iconst 1 hG dJ0_isLatin1_aae02_13 (by decide) ?_
  refine y_goto (tgt := 18) hG dJ0_isLatin1_aae02_14 (by decide) ?_
  exact hE _ _ _ _ dJ0_isLatin1_aae02_18 rfl ⟨rfl, rfl⟩
theorem hd_J0_coder_7d493 : zHead yJ0_coder_7d493 cJ0_coder_7d493 1 0 (some .byte) := ⟨kv450, kv5, by decide +kernel, by decide +kernel, by decide +kernel⟩
abbrev rm_J0_length_8abf5 : Room := { frames := 1, cells := 0, slots := 0, locals := 20 }
set_option maxRecDepth 100000 in
theorem c_J0_length_8abf5 {cB : ClassId} {os : List oSt} {ws : va_W} {a va : Nat} {bs : List Nat} (ho : (a, va, bs) ∈ os) : ∀ (l : Launch) (D : va_G), yMt l yJ0_length_8abf5 cJ0_length_8abf5 1 (some .int) rm_J0_length_8abf5 D cB ws os [.ref a] (fun r w => r = some (.int (nI bs.length)) ∧ w = ws) := by
  intro l D
  refine yMt.ofI (by decide +kernel) (Nat.le_of_ble_eq_true rfl) fun G hG hR hN hC hE => ?_
  refine y_aload_n 0 hG dJ0_length_8abf5_0 rfl rfl ?_
  refine y_sval hG hC ho kv640 dJ0_length_8abf5_1 ?_
  refine y_slen hG hC ho dJ0_length_8abf5_4 ?_
  refine y_aload_n 0 hG dJ0_length_8abf5_5 rfl rfl ?_
  refine y_callVS [] hG hC hR ho (fun l9 D9 => c_J0_coder_7d493 ho l9 D9) hd_J0_coder_7d493 kv447 kv448 kv449 (by show rm_J0_coder_7d493.frames + 1 ≤ rm_J0_length_8abf5.frames; decide) (by show 8 + (1 + 11) + rm_J0_coder_7d493.locals ≤ rm_J0_length_8abf5.locals; decide) (by show 0 + rm_J0_coder_7d493.cells ≤ rm_J0_length_8abf5.cells; decide) (by show 0 + rm_J0_coder_7d493.slots ≤ rm_J0_length_8abf5.slots; decide) rfl rfl (by show 1 ≤ 8; decide) dJ0_length_8abf5_6 (fun r9 w9 hp9 => ?_)
  obtain ⟨rfl, rfl⟩ := hp9
  show yW G ws 0 0 [(0, .ref a)] [.int 0, .int (nI bs.length)] 9
  refine y_ishr (z := nI bs.length) hG dJ0_length_8abf5_9 (jshr _) ?_
  exact hE _ _ _ _ dJ0_length_8abf5_10 ⟨rfl, rfl⟩
abbrev rm_J0_getBytes_840e7 : Room := { frames := 1, cells := 0, slots := 0, locals := 40 }
set_option maxRecDepth 100000 in
theorem c_J0_getBytes_840e7 {cB : ClassId} {os : List oSt} {b v n N : Nat} {g : Nat → Int32} {a va : Nat} {bs : List Nat} (ho : (a, va, bs) ∈ os) (hb : ∀ b ∈ bs, b < 128) (hn : n + bs.length ≤ N) (hN : N < 2 ^ 30) : ∀ (l : Launch) (D : va_G), yMt l yJ0_getBytes_840e7 cJ0_getBytes_840e7 4 none rm_J0_getBytes_840e7 D cB [jB b v n, jA cB v N g] os [.ref a, .ref v, .int (nI n), .int 0] (fun r w => r = none ∧ w = [jB b v n, jA cB v N (va_cpy (fun j => nI (bs.getD j 0)) g 0 n bs.length)]) := by
  intro l D
  refine yMt.ofV (by decide +kernel) (Nat.le_of_ble_eq_true rfl) fun G hG hR hN hC hE => ?_
  refine y_aload_n 0 hG dJ0_getBytes_840e7_0 rfl rfl ?_
  refine y_callVS [] hG hC hR ho (fun l9 D9 => c_J0_coder_7d493 ho l9 D9) hd_J0_coder_7d493 kv447 kv448 kv449 (by show rm_J0_coder_7d493.frames + 1 ≤ rm_J0_getBytes_840e7.frames; decide) (by show 8 + (1 + 11) + rm_J0_coder_7d493.locals ≤ rm_J0_getBytes_840e7.locals; decide) (by show 0 + rm_J0_coder_7d493.cells ≤ rm_J0_getBytes_840e7.cells; decide) (by show 0 + rm_J0_coder_7d493.slots ≤ rm_J0_getBytes_840e7.slots; decide) rfl rfl (by show 0 ≤ 8; decide) dJ0_getBytes_840e7_1 (fun r9 w9 hp9 => ?_)
  obtain ⟨rfl, rfl⟩ := hp9
  show yW G [jB b v n, jA cB v N g] 0 0 [(0, .ref a), (1, .ref v), (2, .int (nI n)), (3, .int 0)] [.int 0] 4
  refine y_iload_n 3 hG dJ0_getBytes_840e7_4 rfl rfl ?_
  refine y_icmp_ne (tgt := 28) hG dJ0_getBytes_840e7_5 (by decide) (fun q9 => absurd q9 (by decide)) (fun _ => ?_)
  refine y_aload_n 0 hG dJ0_getBytes_840e7_8 rfl rfl ?_
  refine y_sval hG hC ho kv640 dJ0_getBytes_840e7_9 ?_
  refine y_iconst 0 hG dJ0_getBytes_840e7_12 (by decide) ?_
  refine y_aload_n 1 hG dJ0_getBytes_840e7_13 rfl rfl ?_
  refine y_iload_n 2 hG dJ0_getBytes_840e7_14 rfl rfl ?_
  refine y_iload_n 3 hG dJ0_getBytes_840e7_15 rfl rfl ?_
  refine y_ishl (z := nI n) hG dJ0_getBytes_840e7_16 (jshl _) ?_
  refine y_aload_n 0 hG dJ0_getBytes_840e7_17 rfl rfl ?_
  refine y_sval hG hC ho kv640 dJ0_getBytes_840e7_18 ?_
  refine y_slen hG hC ho dJ0_getBytes_840e7_21 ?_
  refine y_copyS (ws' := [jB b v n, jA cB v N (va_cpy (fun j => nI (bs.getD j 0)) g 0 n bs.length)]) 1 hG hC hR ⟨kv589, kv524, kv523, kv12⟩ ho rfl hn ⟨by omega, by omega⟩ hb (by show 1 ≤ rm_J0_getBytes_840e7.frames; decide) (by show 0 + 40 ≤ rm_J0_getBytes_840e7.locals; decide) rfl dJ0_getBytes_840e7_22 ?_
  refine y_goto (tgt := 43) hG dJ0_getBytes_840e7_25 (by decide) ?_
  exact hE _ _ _ dJ0_getBytes_840e7_43 ⟨rfl, rfl⟩
abbrev rm_J5_inflateIfNeededFor_a7421 : Room := { frames := 1, cells := 0, slots := 0, locals := 20 }
set_option maxRecDepth 100000 in
theorem c_J5_inflateIfNeededFor_a7421 {cB : ClassId} {os : List oSt} {b v n N : Nat} {g : Nat → Int32} {a va : Nat} {bs : List Nat} (ho : (a, va, bs) ∈ os) : ∀ (l : Launch) (D : va_G), yMt l yJ5_inflateIfNeededFor_a7421 cJ5_inflateIfNeededFor_a7421 2 none rm_J5_inflateIfNeededFor_a7421 D cB [jB b v n, jA cB v N g] os [.ref b, .ref a] (fun r w => r = none ∧ w = [jB b v n, jA cB v N g]) := by
  intro l D
  refine yMt.ofV (by decide +kernel) (Nat.le_of_ble_eq_true rfl) fun G hG hR hN hC hE => ?_
  refine y_compact hG kv462 dJ5_inflateIfNeededFor_a7421_0 ?_
  refine y_if_eq (tgt := 21) hG dJ5_inflateIfNeededFor_a7421_3 (by decide) (fun q9 => absurd q9 (by decide)) (fun _ => ?_)
  refine y_aload_n 0 hG dJ5_inflateIfNeededFor_a7421_6 rfl rfl ?_
  refine y_get (v := .int 0) 0 1 hG ycl1 rfl (by decide) rfl kv471 dJ5_inflateIfNeededFor_a7421_7 ?_
  refine y_aload_n 1 hG dJ5_inflateIfNeededFor_a7421_10 rfl rfl ?_
  refine y_callVS [] hG hC hR ho (fun l9 D9 => c_J0_coder_7d493 ho l9 D9) hd_J0_coder_7d493 kv565 kv448 kv449 (by show rm_J0_coder_7d493.frames + 1 ≤ rm_J5_inflateIfNeededFor_a7421.frames; decide) (by show 8 + (1 + 11) + rm_J0_coder_7d493.locals ≤ rm_J5_inflateIfNeededFor_a7421.locals; decide) (by show 0 + rm_J0_coder_7d493.cells ≤ rm_J5_inflateIfNeededFor_a7421.cells; decide) (by show 0 + rm_J0_coder_7d493.slots ≤ rm_J5_inflateIfNeededFor_a7421.slots; decide) rfl rfl (by show 1 ≤ 8; decide) dJ5_inflateIfNeededFor_a7421_11 (fun r9 w9 hp9 => ?_)
  obtain ⟨rfl, rfl⟩ := hp9
  show yW G [jB b v n, jA cB v N g] 0 0 [(0, .ref b), (1, .ref a)] [.int 0, .int 0] 14
  refine y_icmp_eq (tgt := 21) hG dJ5_inflateIfNeededFor_a7421_14 (by decide) (fun _ => ?_) (fun q9 => absurd rfl q9)
  exact hE _ _ _ dJ5_inflateIfNeededFor_a7421_21 ⟨rfl, rfl⟩
theorem hd_J5_inflateIfNeededFor_a7421 : zHead yJ5_inflateIfNeededFor_a7421 cJ5_inflateIfNeededFor_a7421 2 1 none := ⟨kv564, kv6, by decide +kernel, by decide +kernel, by decide +kernel⟩
theorem hd_J0_getBytes_840e7 : zHead yJ0_getBytes_840e7 cJ0_getBytes_840e7 4 3 none := ⟨kv588, kv5, by decide +kernel, by decide +kernel, by decide +kernel⟩
abbrev rm_J5_putStringAt_47b60 : Room := { frames := 2, cells := 0, slots := 0, locals := 63 }
set_option maxRecDepth 100000 in
theorem c_J5_putStringAt_47b60 {cB : ClassId} {os : List oSt} {b v n N : Nat} {g : Nat → Int32} {a va : Nat} {bs : List Nat} (ho : (a, va, bs) ∈ os) (hb : ∀ b ∈ bs, b < 128) (hn : n + bs.length ≤ N) (hN : N < 2 ^ 30) : ∀ (l : Launch) (D : va_G), yMt l yJ5_putStringAt_47b60 cJ5_putStringAt_47b60 3 none rm_J5_putStringAt_47b60 D cB [jB b v n, jA cB v N g] os [.ref b, .int (nI n), .ref a] (fun r w => r = none ∧ w = [jB b v n, jA cB v N (va_cpy (fun j => nI (bs.getD j 0)) g 0 n bs.length)]) := by
  intro l D
  refine yMt.ofV (by decide +kernel) (Nat.le_of_ble_eq_true rfl) fun G hG hR hN hC hE => ?_
  refine y_aload_n 0 hG dJ5_putStringAt_47b60_0 rfl rfl ?_
  refine y_aload_n 2 hG dJ5_putStringAt_47b60_1 rfl rfl ?_
  refine y_callU (q0 := 0) [.ref a] hG hC hR (fun l9 D9 => c_J5_inflateIfNeededFor_a7421 ho l9 D9) hd_J5_inflateIfNeededFor_a7421 kv561 (by decide +kernel) ku756 (by decide +kernel) kv563 kv564 (ySel.p kv454 (by decide +kernel) ku562 kv563 ku756) kv563 rfl rfl (by show rm_J5_inflateIfNeededFor_a7421.frames + 1 ≤ rm_J5_putStringAt_47b60.frames; decide) (by show 8 + (2 + 11) + rm_J5_inflateIfNeededFor_a7421.locals ≤ rm_J5_putStringAt_47b60.locals; decide) (by show 0 + rm_J5_inflateIfNeededFor_a7421.cells ≤ rm_J5_putStringAt_47b60.cells; decide) (by show 0 + rm_J5_inflateIfNeededFor_a7421.slots ≤ rm_J5_putStringAt_47b60.slots; decide) rfl rfl (by show 0 ≤ 8; decide) dJ5_putStringAt_47b60_2 (fun r9 w9 hp9 => ?_)
  obtain ⟨rfl, rfl⟩ := hp9
  show yW G [jB b v n, jA cB v N g] 0 0 [(0, .ref b), (1, .int (nI n)), (2, .ref a)] [] 5
  refine y_aload_n 2 hG dJ5_putStringAt_47b60_5 rfl rfl ?_
  refine y_aload_n 0 hG dJ5_putStringAt_47b60_6 rfl rfl ?_
  refine y_get (v := .ref v) 0 0 hG ycl1 rfl (by decide) rfl kv470 dJ5_putStringAt_47b60_7 ?_
  refine y_iload_n 1 hG dJ5_putStringAt_47b60_10 rfl rfl ?_
  refine y_aload_n 0 hG dJ5_putStringAt_47b60_11 rfl rfl ?_
  refine y_get (v := .int 0) 0 1 hG ycl1 rfl (by decide) rfl kv471 dJ5_putStringAt_47b60_12 ?_
  refine y_callVS [.ref v, .int (nI n), .int 0] hG hC hR ho (fun l9 D9 => c_J0_getBytes_840e7 ho hb hn hN l9 D9) hd_J0_getBytes_840e7 kv585 kv586 kv587 (by show rm_J0_getBytes_840e7.frames + 1 ≤ rm_J5_putStringAt_47b60.frames; decide) (by show 8 + (4 + 11) + rm_J0_getBytes_840e7.locals ≤ rm_J5_putStringAt_47b60.locals; decide) (by show 0 + rm_J0_getBytes_840e7.cells ≤ rm_J5_putStringAt_47b60.cells; decide) (by show 0 + rm_J0_getBytes_840e7.slots ≤ rm_J5_putStringAt_47b60.slots; decide) rfl rfl (by show 0 ≤ 8; decide) dJ5_putStringAt_47b60_15 (fun r9 w9 hp9 => ?_)
  obtain ⟨rfl, rfl⟩ := hp9
  show yW G [jB b v n, jA cB v N (va_cpy (fun j => nI (bs.getD j 0)) g 0 n bs.length)] 0 0 [(0, .ref b), (1, .int (nI n)), (2, .ref a)] [] 18
  exact hE _ _ _ dJ5_putStringAt_47b60_18 ⟨rfl, rfl⟩
abbrev rm_J8_newLength_cabcc : Room := { frames := 1, cells := 0, slots := 0, locals := 14 }
set_option maxRecDepth 100000 in
theorem c_J8_newLength_cabcc {cB : ClassId} {os : List oSt} {ws : va_W} {x y z : Nat} (h : x + max y z < 2 ^ 29) (h0 : 0 < x + max y z) : ∀ (l : Launch) (D : va_G), yMt l yJ8_newLength_cabcc cJ8_newLength_cabcc 4 (some .int) rm_J8_newLength_cabcc D cB ws os [.int (nI x), .int (nI y), .int (nI z)] (fun r w => r = some (.int (nI (x + max y z))) ∧ w = ws) := by
  intro l D
  refine yMt.ofI (by decide +kernel) (Nat.le_of_ble_eq_true rfl) fun G hG hR hN hC hE => ?_
  refine y_iload_n 0 hG dJ8_newLength_cabcc_0 rfl rfl ?_
  refine y_iload_n 1 hG dJ8_newLength_cabcc_1 rfl rfl ?_
  refine y_iload_n 2 hG dJ8_newLength_cabcc_2 rfl rfl ?_
  refine y_max hG hR ⟨kv505, kw248, kw12, kw249⟩ (by show 1 ≤ rm_J8_newLength_cabcc.frames; decide) (by show 1 + 13 ≤ rm_J8_newLength_cabcc.locals; decide) (by omega) (by omega) dJ8_newLength_cabcc_3 ?_
  refine y_iadd (z := nI (x + max y z)) hG dJ8_newLength_cabcc_6 (nI_add _ _) ?_
  refine y_istore_n (lv' := [(3, .int (nI (x + max y z))), (0, .int (nI x)), (1, .int (nI y)), (2, .int (nI z))]) hG dJ8_newLength_cabcc_7 rfl (by decide) rfl ?_
  refine y_iconst 0 hG dJ8_newLength_cabcc_8 (by decide) ?_
  refine y_iload_n 0 hG dJ8_newLength_cabcc_9 rfl rfl ?_
  refine y_icmp_ge (tgt := 21) hG dJ8_newLength_cabcc_10 (by decide) (fun q9 => absurd q9 (nI_nle h0 (by omega))) (fun _ => ?_)
  refine y_iload_n 0 hG dJ8_newLength_cabcc_13 rfl rfl ?_
  refine y_ldc hG kv506 dJ8_newLength_cabcc_14 ?_
  refine y_icmp_gt (tgt := 21) hG dJ8_newLength_cabcc_16 (by decide) (fun q9 => absurd q9 (show ¬ nI 2147483639 < nI (x + max y z) from nI_nlt (by omega) (by omega))) (fun _ => ?_)
  refine y_iload_n 0 hG dJ8_newLength_cabcc_19 rfl rfl ?_
  exact hE _ _ _ _ dJ8_newLength_cabcc_20 ⟨rfl, rfl⟩
theorem hd_J8_newLength_cabcc : zHead yJ8_newLength_cabcc cJ8_newLength_cabcc 4 3 (some .int) := ⟨kv504, kv9, by decide +kernel, by decide +kernel, by decide +kernel⟩
abbrev rm_J5_newCapacity_0f7a4 : Room := { frames := 2, cells := 0, slots := 0, locals := 37 }
set_option maxRecDepth 100000 in
theorem c_J5_newCapacity_0f7a4 {cB : ClassId} {os : List oSt} {b v n N : Nat} {g : Nat → Int32} {q : Nat} (hq : N < q) (hb : N + q < 1000) : ∀ (l : Launch) (D : va_G), yMt l yJ5_newCapacity_0f7a4 cJ5_newCapacity_0f7a4 6 (some .int) rm_J5_newCapacity_0f7a4 D cB [jB b v n, jA cB v N g] os [.ref b, .int (nI q)] (fun r w => r = some (.int (nI (N + max (q - N) (N + 2)))) ∧ w = [jB b v n, jA cB v N g]) := by
  intro l D
  refine yMt.ofI (by decide +kernel) (Nat.le_of_ble_eq_true rfl) fun G hG hR hN hC hE => ?_
  refine y_aload_n 0 hG dJ5_newCapacity_0f7a4_0 rfl rfl ?_
  refine y_get (v := .ref v) 0 0 hG ycl1 rfl (by decide) rfl kv470 dJ5_newCapacity_0f7a4_1 ?_
  refine y_alen 1 hG hC rfl dJ5_newCapacity_0f7a4_4 ?_
  refine y_istore_n (lv' := [(2, .int (nI N)), (0, .ref b), (1, .int (nI q))]) hG dJ5_newCapacity_0f7a4_5 rfl (by decide) rfl ?_
  refine y_iload_n 2 hG dJ5_newCapacity_0f7a4_6 rfl rfl ?_
  refine y_aload_n 1 hG dJ5_newCapacity_0f7a4_7 rfl rfl ?_
  refine y_get (v := .int 0) 0 1 hG ycl1 rfl (by decide) rfl kv471 dJ5_newCapacity_0f7a4_8 ?_
  refine y_ishl (z := nI q) hG dJ5_newCapacity_0f7a4_11 (jshl _) ?_
  refine y_istore_n (lv' := [(3, .int (nI q)), (2, .int (nI N)), (0, .ref b), (1, .int (nI q))]) hG dJ5_newCapacity_0f7a4_12 rfl (by decide) rfl ?_
  refine y_iload_n 0 hG dJ5_newCapacity_0f7a4_13 rfl rfl ?_
  refine y_iload_n 1 hG dJ5_newCapacity_0f7a4_14 rfl rfl ?_
  refine y_isub (z := nI (q - N)) hG dJ5_newCapacity_0f7a4_15 (pk_sub (by omega)) ?_
  refine y_istore (lv' := [(4, .int (nI (q - N))), (3, .int (nI q)), (2, .int (nI N)), (0, .ref b), (1, .int (nI q))]) hG dJ5_newCapacity_0f7a4_16 (by decide) rfl ?_
  refine y_iload_n 2 hG dJ5_newCapacity_0f7a4_18 rfl rfl ?_
  refine y_iload 0 hG dJ5_newCapacity_0f7a4_19 rfl ?_
  refine y_iload_n 2 hG dJ5_newCapacity_0f7a4_21 rfl rfl ?_
  refine y_iconst 2 hG dJ5_newCapacity_0f7a4_22 (by decide) ?_
  refine y_aload_n 3 hG dJ5_newCapacity_0f7a4_23 rfl rfl ?_
  refine y_get (v := .int 0) 0 1 hG ycl1 rfl (by decide) rfl kv471 dJ5_newCapacity_0f7a4_24 ?_
  refine y_ishl (z := 2) hG dJ5_newCapacity_0f7a4_27 (jshl _) ?_
  refine y_iadd (z := nI (N + 2)) hG dJ5_newCapacity_0f7a4_28 (nI_add N 2) ?_
  refine y_callS [.int (nI N), .int (nI (q - N)), .int (nI (N + 2))] hG hC hR (fun l9 D9 => c_J8_newLength_cabcc (by omega) (by omega) l9 D9) hd_J8_newLength_cabcc kv502 kv503 (by show rm_J8_newLength_cabcc.frames + 1 ≤ rm_J5_newCapacity_0f7a4.frames; decide) (by show 8 + (4 + 11) + rm_J8_newLength_cabcc.locals ≤ rm_J5_newCapacity_0f7a4.locals; decide) (by show 0 + rm_J8_newLength_cabcc.cells ≤ rm_J5_newCapacity_0f7a4.cells; decide) (by show 0 + rm_J8_newLength_cabcc.slots ≤ rm_J5_newCapacity_0f7a4.slots; decide) rfl rfl (by show 0 ≤ 8; decide) dJ5_newCapacity_0f7a4_29 (fun r9 w9 hp9 => ?_)
  obtain ⟨rfl, rfl⟩ := hp9
  show yW G [jB b v n, jA cB v N g] 0 0 [(4, .int (nI (q - N))), (3, .int (nI q)), (2, .int (nI N)), (0, .ref b), (1, .int (nI q))] [.int (nI (N + max (q - N) (N + 2)))] 32
  refine y_istore (lv' := [(5, .int (nI (N + max (q - N) (N + 2)))), (4, .int (nI (q - N))), (3, .int (nI q)), (2, .int (nI N)), (0, .ref b), (1, .int (nI q))]) hG dJ5_newCapacity_0f7a4_32 (by decide) rfl ?_
  refine y_iload 0 hG dJ5_newCapacity_0f7a4_34 rfl ?_
  refine y_ldc hG kv510 dJ5_newCapacity_0f7a4_36 ?_
  refine y_icmp_ne (tgt := 51) hG dJ5_newCapacity_0f7a4_38 (by decide) (fun _ => ?_) (fun q9 => absurd (show ¬ nI (N + max (q - N) (N + 2)) = nI 2147483647 from fun e9 => by have := (nI_eq (by omega) (by omega)).mp e9; omega) q9)
  refine y_iload 0 hG dJ5_newCapacity_0f7a4_51 rfl ?_
  refine y_aload_n 4 hG dJ5_newCapacity_0f7a4_53 rfl rfl ?_
  refine y_get (v := .int 0) 0 1 hG ycl1 rfl (by decide) rfl kv471 dJ5_newCapacity_0f7a4_54 ?_
  refine y_ishr (z := nI (N + max (q - N) (N + 2))) hG dJ5_newCapacity_0f7a4_57 (jshr _) ?_
  exact hE _ _ _ _ dJ5_newCapacity_0f7a4_58 ⟨rfl, rfl⟩
abbrev rm_J7_copyOf_9075b : Room := { frames := 1, cells := 1, slots := 220, locals := 40 }
set_option maxRecDepth 100000 in
theorem c_J7_copyOf_9075b {cB : ClassId} {os : List oSt} {b v n N : Nat} {g : Nat → Int32} {M : Nat} (hM : N < M) (hM2 : M ≤ 220) (hg : ∀ j, fits .byte (.int (g j)) = true) : ∀ (l : Launch) (D : va_G), yMt l yJ7_copyOf_9075b cJ7_copyOf_9075b 3 (some (.array .byte)) rm_J7_copyOf_9075b D cB [jB b v n, jA cB v N g] os [.ref v, .int (nI M)] (fun r w => ∃ x, r = some (.ref x) ∧ w = [jB b v n, jA cB v N g, jA cB x M (va_cpy g (fun _ => 0) 0 0 (min N M))]) := by
  intro l D
  refine yMt.ofA (Or.inr ⟨_, rfl⟩) (by decide +kernel) (Nat.le_of_ble_eq_true rfl) fun G hG hR hN hC hE => ?_
  refine y_iload_n 1 hG dJ7_copyOf_9075b_0 rfl rfl ?_
  refine y_aload_n 0 hG dJ7_copyOf_9075b_1 rfl rfl ?_
  refine y_alen 1 hG hC rfl dJ7_copyOf_9075b_2 ?_
  refine y_icmp_ne (tgt := 14) hG dJ7_copyOf_9075b_3 (by decide) (fun _ => ?_) (fun q9 => absurd (fun e9 => by have := (nI_eq (by omega) (by omega)).mp e9; omega) q9)
  refine y_iload_n 1 hG dJ7_copyOf_9075b_14 rfl rfl ?_
  refine y_newB (N := M) hG hC hR kw68 (by omega) (by show 0 + 1 ≤ 1; decide) (by show 0 + _ ≤ 220; omega) dJ7_copyOf_9075b_15 (fun x => ?_)
  show yW G [jB b v n, jA cB v N g, jA cB x M (fun _ => 0)] 1 (0 + M) [(0, .ref v), (1, .int (nI M))] [.ref x] 17
  refine y_astore_n (lv' := [(2, .ref x), (0, .ref v), (1, .int (nI M))]) hG dJ7_copyOf_9075b_17 rfl (by decide) rfl ?_
  refine y_aload_n 1 hG dJ7_copyOf_9075b_18 rfl rfl ?_
  refine y_iconst 0 hG dJ7_copyOf_9075b_19 (by decide) ?_
  refine y_aload_n 0 hG dJ7_copyOf_9075b_20 rfl rfl ?_
  refine y_iconst 0 hG dJ7_copyOf_9075b_21 (by decide) ?_
  refine y_aload_n 1 hG dJ7_copyOf_9075b_22 rfl rfl ?_
  refine y_alen 1 hG hC rfl dJ7_copyOf_9075b_23 ?_
  refine y_iload_n 2 hG dJ7_copyOf_9075b_24 rfl rfl ?_
  refine y_min hG hR ⟨kv521, kw226, kw12, kw227⟩ (by show 1 ≤ rm_J7_copyOf_9075b.frames; decide) (by show 4 + 13 ≤ rm_J7_copyOf_9075b.locals; decide) (by omega) (by omega) dJ7_copyOf_9075b_25 ?_
  refine y_copy (ws' := [jB b v n, jA cB v N g, jA cB x M (va_cpy g (fun _ => 0) 0 0 (min N M))]) (sp := 0) (dp := 0) 1 2 hG hC hR ⟨kv522, kv524, kv523, kv12⟩ rfl rfl (by omega) (by omega) ⟨by omega, by omega⟩ (fun i _ => hg _) (by show 1 ≤ rm_J7_copyOf_9075b.frames; decide) (by show 0 + 40 ≤ rm_J7_copyOf_9075b.locals; decide) rfl dJ7_copyOf_9075b_28 ?_
  refine y_aload_n 0 hG dJ7_copyOf_9075b_31 rfl rfl ?_
  refine y_widen (k := rm_J7_copyOf_9075b.cells) (n := rm_J7_copyOf_9075b.slots) (by decide) (by first | decide | (show (0 + M) ≤ 220; omega)) hR (by decide) (by decide) ?_
  exact hE _ _ _ _ dJ7_copyOf_9075b_32 ⟨x, rfl, rfl⟩
theorem hd_J5_newCapacity_0f7a4 : zHead yJ5_newCapacity_0f7a4 cJ5_newCapacity_0f7a4 6 1 (some .int) := ⟨kv501, kv6, by decide +kernel, by decide +kernel, by decide +kernel⟩
theorem hd_J7_copyOf_9075b : zHead yJ7_copyOf_9075b cJ7_copyOf_9075b 3 2 (some (.array .byte)) := ⟨kv513, kv11, by decide +kernel, by decide +kernel, by decide +kernel⟩
abbrev rm_J5_ensureCapacityInternal_d00df : Room := { frames := 3, cells := 1, slots := 220, locals := 62 }
set_option maxRecDepth 100000 in
theorem c_J5_ensureCapacityInternal_d00df {cB : ClassId} {os : List oSt} {b v n N : Nat} {g : Nat → Int32} {q : Nat} (hq : N < q) (hb : (N + max (q - N) (N + 2)) ≤ 220) (hg : ∀ j, fits .byte (.int (g j)) = true) : ∀ (l : Launch) (D : va_G), yMt l yJ5_ensureCapacityInternal_d00df cJ5_ensureCapacityInternal_d00df 3 none rm_J5_ensureCapacityInternal_d00df D cB [jB b v n, jA cB v N g] os [.ref b, .int (nI q)] (fun r w => ∃ x, r = none ∧ w = [jB b x n, jA cB x (N + max (q - N) (N + 2)) (va_cpy g (fun _ => 0) 0 0 (min N (N + max (q - N) (N + 2))))]) := by
  intro l D
  refine yMt.ofV (by decide +kernel) (Nat.le_of_ble_eq_true rfl) fun G hG hR hN hC hE => ?_
  refine y_aload_n 0 hG dJ5_ensureCapacityInternal_d00df_0 rfl rfl ?_
  refine y_get (v := .ref v) 0 0 hG ycl1 rfl (by decide) rfl kv470 dJ5_ensureCapacityInternal_d00df_1 ?_
  refine y_alen 1 hG hC rfl dJ5_ensureCapacityInternal_d00df_4 ?_
  refine y_aload_n 0 hG dJ5_ensureCapacityInternal_d00df_5 rfl rfl ?_
  refine y_get (v := .int 0) 0 1 hG ycl1 rfl (by decide) rfl kv471 dJ5_ensureCapacityInternal_d00df_6 ?_
  refine y_ishr (z := nI N) hG dJ5_ensureCapacityInternal_d00df_9 (jshr _) ?_
  refine y_istore_n (lv' := [(2, .int (nI N)), (0, .ref b), (1, .int (nI q))]) hG dJ5_ensureCapacityInternal_d00df_10 rfl (by decide) rfl ?_
  refine y_iload_n 2 hG dJ5_ensureCapacityInternal_d00df_11 rfl rfl ?_
  refine y_iload_n 0 hG dJ5_ensureCapacityInternal_d00df_12 rfl rfl ?_
  refine y_isub (z := (nI q - nI N)) hG dJ5_ensureCapacityInternal_d00df_13 rfl ?_
  refine y_if_le (tgt := 38) hG dJ5_ensureCapacityInternal_d00df_14 (by decide) (fun q9 => absurd q9 (jnle0 hq (by omega))) (fun _ => ?_)
  refine y_aload_n 1 hG dJ5_ensureCapacityInternal_d00df_17 rfl rfl ?_
  refine y_aload_n 1 hG dJ5_ensureCapacityInternal_d00df_18 rfl rfl ?_
  refine y_get (v := .ref v) 0 0 hG ycl1 rfl (by decide) rfl kv470 dJ5_ensureCapacityInternal_d00df_19 ?_
  refine y_aload_n 1 hG dJ5_ensureCapacityInternal_d00df_22 rfl rfl ?_
  refine y_iload_n 2 hG dJ5_ensureCapacityInternal_d00df_23 rfl rfl ?_
  refine y_callU (q0 := 0) [.int (nI q)] hG hC hR (fun l9 D9 => c_J5_newCapacity_0f7a4 hq (by omega) l9 D9) hd_J5_newCapacity_0f7a4 kv498 (by decide +kernel) ku754 (by decide +kernel) kv500 kv501 (ySel.p kv454 (by decide +kernel) ku499 kv500 ku754) kv500 rfl rfl (by show rm_J5_newCapacity_0f7a4.frames + 1 ≤ rm_J5_ensureCapacityInternal_d00df.frames; decide) (by show 8 + (6 + 11) + rm_J5_newCapacity_0f7a4.locals ≤ rm_J5_ensureCapacityInternal_d00df.locals; decide) (by show 0 + rm_J5_newCapacity_0f7a4.cells ≤ rm_J5_ensureCapacityInternal_d00df.cells; decide) (by show 0 + rm_J5_newCapacity_0f7a4.slots ≤ rm_J5_ensureCapacityInternal_d00df.slots; decide) rfl rfl (by show 2 ≤ 8; decide) dJ5_ensureCapacityInternal_d00df_24 (fun r9 w9 hp9 => ?_)
  obtain ⟨rfl, rfl⟩ := hp9
  show yW G [jB b v n, jA cB v N g] 0 0 [(2, .int (nI N)), (0, .ref b), (1, .int (nI q))] [.int (nI (N + max (q - N) (N + 2))), .ref v, .ref b] 27
  refine y_aload_n 1 hG dJ5_ensureCapacityInternal_d00df_27 rfl rfl ?_
  refine y_get (v := .int 0) 0 1 hG ycl1 rfl (by decide) rfl kv471 dJ5_ensureCapacityInternal_d00df_28 ?_
  refine y_ishl (z := nI (N + max (q - N) (N + 2))) hG dJ5_ensureCapacityInternal_d00df_31 (jshl _) ?_
  refine y_callS [.ref v, .int (nI (N + max (q - N) (N + 2)))] hG hC hR (fun l9 D9 => c_J7_copyOf_9075b (M := (N + max (q - N) (N + 2))) (by omega) hb hg l9 D9) hd_J7_copyOf_9075b kv511 kv512 (by show rm_J7_copyOf_9075b.frames + 1 ≤ rm_J5_ensureCapacityInternal_d00df.frames; decide) (by show 8 + (3 + 11) + rm_J7_copyOf_9075b.locals ≤ rm_J5_ensureCapacityInternal_d00df.locals; decide) (by show 0 + rm_J7_copyOf_9075b.cells ≤ rm_J5_ensureCapacityInternal_d00df.cells; decide) (by show 0 + rm_J7_copyOf_9075b.slots ≤ rm_J5_ensureCapacityInternal_d00df.slots; decide) rfl rfl (by show 1 ≤ 8; decide) dJ5_ensureCapacityInternal_d00df_32 (fun r9 w9 hp9 => ?_)
  obtain ⟨x, rfl, rfl⟩ := hp9
  show yW G [jB b v n, jA cB v N g, jA cB x (N + max (q - N) (N + 2)) (va_cpy g (fun _ => 0) 0 0 (min N (N + max (q - N) (N + 2))))] 1 220 [(2, .int (nI N)), (0, .ref b), (1, .int (nI q))] [.ref x, .ref b] 35
  refine y_put (ws' := [jB b x n, jA cB v N g, jA cB x (N + max (q - N) (N + 2)) (va_cpy g (fun _ => 0) 0 0 (min N (N + max (q - N) (N + 2))))]) 0 0 hG ycl1 rfl (by decide) (by show 0 < 4; decide) kv470 rfl rfl rfl rfl dJ5_ensureCapacityInternal_d00df_35 ?_
  refine y_sub [0, 2] rfl (ws' := [jB b x n, jA cB x (N + max (q - N) (N + 2)) (va_cpy g (fun _ => 0) 0 0 (min N (N + max (q - N) (N + 2))))]) rfl ?_
  exact hE _ _ _ dJ5_ensureCapacityInternal_d00df_38 ⟨x, rfl, rfl⟩
set_option maxRecDepth 100000 in
theorem c_J5_ensureCapacityInternal_d00dfr {cB : ClassId} {os : List oSt} {b v n N : Nat} {g : Nat → Int32} {q : Nat} (hq : q ≤ N) (hb : N ≤ 220) : ∀ (l : Launch) (D : va_G), yMt l yJ5_ensureCapacityInternal_d00df cJ5_ensureCapacityInternal_d00df 3 none rm_J5_ensureCapacityInternal_d00df D cB [jB b v n, jA cB v N g] os [.ref b, .int (nI q)] (fun r w => r = none ∧ w = [jB b v n, jA cB v N g]) := by
  intro l D
  refine yMt.ofV (by decide +kernel) (Nat.le_of_ble_eq_true rfl) fun G hG hR hN hC hE => ?_
  refine y_aload_n 0 hG dJ5_ensureCapacityInternal_d00df_0 rfl rfl ?_
  refine y_get (v := .ref v) 0 0 hG ycl1 rfl (by decide) rfl kv470 dJ5_ensureCapacityInternal_d00df_1 ?_
  refine y_alen 1 hG hC rfl dJ5_ensureCapacityInternal_d00df_4 ?_
  refine y_aload_n 0 hG dJ5_ensureCapacityInternal_d00df_5 rfl rfl ?_
  refine y_get (v := .int 0) 0 1 hG ycl1 rfl (by decide) rfl kv471 dJ5_ensureCapacityInternal_d00df_6 ?_
  refine y_ishr (z := nI N) hG dJ5_ensureCapacityInternal_d00df_9 (jshr _) ?_
  refine y_istore_n (lv' := [(2, .int (nI N)), (0, .ref b), (1, .int (nI q))]) hG dJ5_ensureCapacityInternal_d00df_10 rfl (by decide) rfl ?_
  refine y_iload_n 2 hG dJ5_ensureCapacityInternal_d00df_11 rfl rfl ?_
  refine y_iload_n 0 hG dJ5_ensureCapacityInternal_d00df_12 rfl rfl ?_
  refine y_isub (z := (nI q - nI N)) hG dJ5_ensureCapacityInternal_d00df_13 rfl ?_
  refine y_if_le (tgt := 38) hG dJ5_ensureCapacityInternal_d00df_14 (by decide) (fun _ => ?_) (fun q9 => absurd (jle0 hq (by omega)) q9)
  refine y_widen (k := rm_J5_ensureCapacityInternal_d00df.cells) (n := rm_J5_ensureCapacityInternal_d00df.slots) (by decide) (by first | decide | (show 0 ≤ 220; omega)) hR (by decide) (by decide) ?_
  exact hE _ _ _ dJ5_ensureCapacityInternal_d00df_38 ⟨rfl, rfl⟩
/-- what a builder's array holds -/
def jC (g : Nat → Int32) (bs : List Nat) : Prop := ∀ j, j < bs.length → g j = nI (bs.getD j 0)
def jF (g : Nat → Int32) : Prop := ∀ j, fits .byte (.int (g j)) = true
theorem yMt.weaken {l : Launch} {y : MethodName} {cc : ByteArray} {maxL : Nat} {ret : Option FieldType} {rm : Room} {D : va_G} {cB : ClassId} {ws : va_W} {os : List oSt} {av : List Value} {post post' : Option Value → va_W → Prop} (h : yMt l y cc maxL ret rm D cB ws os av post) (hp : ∀ r w, post r w → post' r w) : yMt l y cc maxL ret rm D cB ws os av post' := by
  intro sz
  refine MetFree.weaken_post (h sz) ?_
  sorry

