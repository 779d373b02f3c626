/-! the walks: written by wip/p33/yj.py -/
abbrev jB (b v n : Nat) : Nat × va_E := (b, .inr (1, [.ref v, .int 0, .int 0, .int (nI n)]))
abbrev jA (cB : ClassId) (v N : Nat) (g : Nat → Int32) : Nat × va_E := (v, .inl (cB, N, .inl g))
abbrev jO (ci r : Nat) : Nat × va_E := (r, .inr (ci, [.null, .int 0, .int 0, .int 0]))
abbrev jS (r x : Nat) : Nat × va_E := (r, .inr (0, [.ref x, .int 0, .int 0, .int 0]))
theorem jshr (x : Int32) : x >>> ((0 : Int32) &&& 31) = x := by simp
theorem jshl (x : Int32) : x <<< ((0 : Int32) &&& 31) = x := by simp
theorem jle0 {q N : Nat} (h : q ≤ N) (hN : N < 2 ^ 30) : nI q - nI N ≤ 0 := by
  rw [Int32.le_iff_toInt_le, pk_sub_toInt (by omega) hN, Int32.toInt_zero]
  omega
theorem jnle0 {q N : Nat} (h : N < q) (hN : q < 2 ^ 30) : ¬ nI q - nI N ≤ 0 := by
  rw [Int32.le_iff_toInt_le, pk_sub_toInt hN (by omega), Int32.toInt_zero]
  omega
theorem jnmax {K : Nat} (h : K < 2147483647) : ¬ nI K = 2147483647 := by
  intro e9
  have h1 : nI K = nI 2147483647 := e9
  have := (nI_eq (by omega) (by omega)).mp h1
  omega
theorem jneq {K M : Nat} (h : K ≠ M) (h1 : K < 2 ^ 31) (h2 : M < 2 ^ 31) : ¬ nI K = nI M := fun e9 => h ((nI_eq h1 h2).mp e9)
theorem jsub0 (x : Int32) : x - 0 = x := by simp
section YS
variable {G : yCx} {ws ws' : va_W} {cells slots : Nat} {lv : zLv} {st : List Value} {pc : Nat} {own : String} {cc : ByteArray} {nL : Nat}
/-- a part of the world is enough -/
theorem y_sub (is : List Nat) (hn : va_nd is = true) (hs : is.map (fun i => ws[i]?) = ws'.map some) (k : yW G ws' cells slots lv st pc) : yW G ws cells slots lv st pc := by
  obtain ⟨p, l, e, R, s, m, args, below, meth, c, Q, A, nn, D, cB, os⟩ := G
  intro hc hs2 H locs ls hP hD hS hl
  have hf : is.filterMap (fun i => ws[i]?) = ws' := by
    have h1 : is.filterMap (fun i => ws[i]?) = (is.map (fun i => ws[i]?)).filterMap id := by rw [List.filterMap_map]; rfl
    rw [h1, hs, List.filterMap_map]
    exact List.filterMap_some
  exact k hc hs2 H locs ls (hP.sub is hf) (hD.sub is hn hs) hS hl
theorem y_clone {index a N : Nat} {f : Nat → Int32} {rm : Room} {cB : ClassId} {os : List oSt} (q0 : Nat) (hG : yOK G own cc nL) (hC : yCb G cB os) (hRm : yRoom G rm) (hl : zWd (.methodLink own index ⟨"[B", "clone", "()Ljava/lang/Object;"⟩)) (hsm : zWd (.sameMethod "[B" "java/lang/Object" "clone" "()Ljava/lang/Object;")) (hna : zWd (.native ⟨"java/lang/Object", "clone", "()Ljava/lang/Object;"⟩)) (hin : zWd (.instanceMethod ⟨"java/lang/Object", "clone", "()Ljava/lang/Object;"⟩)) (hse : zWd (.selects "[B" ⟨"[B", "clone", "()Ljava/lang/Object;"⟩ ⟨"java/lang/Object", "clone", "()Ljava/lang/Object;"⟩)) (hca : (Cond.castable "[B" "java/lang/Cloneable") ∈ lw_tbl ∧ zst (Cond.castable "[B" "java/lang/Cloneable") = true)
    (ha : ws[q0]? = some (a, .inl (cB, N, .inl f))) (hfit : ∀ j, fits .byte (.int (f j)) = true) (hfr : 1 ≤ rm.frames) (hlo : (st.map fun v => v.category).sum + 14 ≤ rm.locals) (hce : cells + 1 ≤ rm.cells) (hsl : slots + N ≤ rm.slots) (hd : decode cc pc = .ok (.invokevirtual index, 3))
    (kk : ∀ x, yW G (ws ++ [(x, .inl (cB, N, .inl f))]) (cells + 1) (slots + N) lv (.ref x :: st) (pc + 3)) : yW G ws cells slots lv (.ref a :: st) pc := by
  obtain ⟨p, l, e, R, s, m, args, below, meth, c, Q, A, nn, D, cB', os'⟩ := G
  intro hc hs H locs ls hP hD hS hl2
  obtain ⟨g1, g2, g3, g4, g5, g6, g7, g8, g9⟩ := hG
  obtain ⟨hC1, hC2⟩ := hC
  subst hC1
  have r1 := hRm.1
  have r2 := hRm.2.1
  have r3 := hRm.2.2.1
  have r4 := hRm.2.2.2
  have hnm : s.vm.findClass "[B" = some cB' := (g6.2 0 _ rfl).2
  refine va_clone (x := (N, .inl f)) g1 g2 (g4.trans hl2.1.symm) g3 (g7.at hl _) (g7.at hsm _) (g7.at hna _) (g7.at hin _) (g7.at hse _) (g7.at hca _) g6 hP hD hS g9 q0 0 ha rfl hnm (fun i v hv => ?_) (by omega) (by omega) (by omega) (by show slots + N ≤ _; omega) hd (fun q H1 _ hP1 hD1 hS1 => kk q (by omega) (by show slots + N ≤ _; omega) H1 locs ls hP1 hD1 hS1 hl2)
  have hlt : i < N := by
    have := (Array.getElem?_eq_some_iff.mp hv).1
    rw [vp_cell_i, arrV_size] at this
    exact this
  rw [vp_cell_i, arrV_read _ _ hlt] at hv
  cases hv
  exact hfit i
theorem y_castB {index a N : Nat} {f : Nat → Int32} {cB : ClassId} {os : List oSt} (q0 : Nat) (hG : yOK G own cc nL) (hC : yCb G cB os) (hlk : zWd (.classLink own index "[B")) (ha : ws[q0]? = some (a, .inl (cB, N, .inl f))) (hd : decode cc pc = .ok (.checkcast index, 3)) (kk : yW G ws cells slots lv (.ref a :: st) (pc + 3)) : yW G ws cells slots lv (.ref a :: st) pc := by
  obtain ⟨p, l, e, R, s, m, args, below, meth, c, Q, A, nn, D, cB', os'⟩ := G
  intro hc hs H locs ls hP hD hS hl2
  obtain ⟨g1, g2, g3, g4, g5, g6, g7, g8, g9⟩ := hG
  obtain ⟨hC1, hC2⟩ := hC
  subst hC1
  exact va_castA g1 g2 g3 (g7.at hlk _) hP q0 ha (g6.2 0 _ rfl).2 hd (kk hc hs H locs ls hP hD hS hl2)
end YS
abbrev rm_J0_coder_7d493 : Room := { frames := 0, cells := 0, slots := 0, locals := 0 }
set_option maxRecDepth 100000 in
theorem c_J0_coder_7d493 {cB : ClassId} {os : List oSt} {ws : va_W} {a va : Nat} {bs : List Nat} (ho : (a, va, bs) ∈ os) : ∀ (l : Launch) (D : va_G), yMt l yJ0_coder_7d493 cJ0_coder_7d493 1 (some .byte) rm_J0_coder_7d493 D cB ws os [.ref a] (fun r w => r = some (.int 0) ∧ w = ws) := by
  intro l D
  refine yMt.ofN (by decide +kernel) (Nat.le_of_ble_eq_true rfl) fun G hG hR hN hC hE => ?_
  refine y_compact hG kv451 dJ0_coder_7d493_0 ?_
  refine y_if_eq (tgt := 13) hG dJ0_coder_7d493_3 (by decide) (fun q9 => absurd q9 (by decide)) (fun _ => ?_)
  refine y_aload_n 0 hG dJ0_coder_7d493_6 rfl rfl ?_
  refine y_scod hG hC ho kv641 dJ0_coder_7d493_7 ?_
  refine y_goto (tgt := 14) hG dJ0_coder_7d493_10 (by decide) ?_
  exact hE _ _ _ _ dJ0_coder_7d493_14 rfl ⟨rfl, rfl⟩
abbrev rm_J0_isLatin1_aae02 : Room := { frames := 0, cells := 0, slots := 0, locals := 0 }
set_option maxRecDepth 100000 in
theorem c_J0_isLatin1_aae02 {cB : ClassId} {os : List oSt} {ws : va_W} {a va : Nat} {bs : List Nat} (ho : (a, va, bs) ∈ os) : ∀ (l : Launch) (D : va_G), yMt l yJ0_isLatin1_aae02 cJ0_isLatin1_aae02 1 (some .boolean) rm_J0_isLatin1_aae02 D cB ws os [.ref a] (fun r w => r = some (.int 1) ∧ w = ws) := by
  intro l D
  refine yMt.ofN (by decide +kernel) (Nat.le_of_ble_eq_true rfl) fun G hG hR hN hC hE => ?_
  refine y_compact hG kv451 dJ0_isLatin1_aae02_0 ?_
  refine y_if_eq (tgt := 17) hG dJ0_isLatin1_aae02_3 (by decide) (fun q9 => absurd q9 (by decide)) (fun _ => ?_)
  refine y_aload_n 0 hG dJ0_isLatin1_aae02_6 rfl rfl ?_
  refine y_scod hG hC ho kv641 dJ0_isLatin1_aae02_7 ?_
  refine y_if_ne (tgt := 17) hG dJ0_isLatin1_aae02_10 (by decide) (fun q9 => absurd q9 (by decide)) (fun _ => ?_)
  refine y_iconst 1 hG dJ0_isLatin1_aae02_13 (by decide) ?_
  refine y_goto (tgt := 18) hG dJ0_isLatin1_aae02_14 (by decide) ?_
  exact hE _ _ _ _ dJ0_isLatin1_aae02_18 rfl ⟨rfl, rfl⟩
theorem hd_J0_coder_7d493 : zHead yJ0_coder_7d493 cJ0_coder_7d493 1 0 (some .byte) := ⟨kv450, kv5, by decide +kernel, by decide +kernel, by decide +kernel⟩
abbrev rm_J0_length_8abf5 : Room := { frames := 1, cells := 0, slots := 0, locals := 20 }
set_option maxRecDepth 100000 in
theorem c_J0_length_8abf5 {cB : ClassId} {os : List oSt} {ws : va_W} {a va : Nat} {bs : List Nat} (ho : (a, va, bs) ∈ os) : ∀ (l : Launch) (D : va_G), yMt l yJ0_length_8abf5 cJ0_length_8abf5 1 (some .int) rm_J0_length_8abf5 D cB ws os [.ref a] (fun r w => r = some (.int (nI bs.length)) ∧ w = ws) := by
  intro l D
  refine yMt.ofI (by decide +kernel) (Nat.le_of_ble_eq_true rfl) fun G hG hR hN hC hE => ?_
  refine y_aload_n 0 hG dJ0_length_8abf5_0 rfl rfl ?_
  refine y_sval hG hC ho kv640 dJ0_length_8abf5_1 ?_
  refine y_slen hG hC ho dJ0_length_8abf5_4 ?_
  refine y_aload_n 0 hG dJ0_length_8abf5_5 rfl rfl ?_
  refine y_callVS [] hG hC hR ho (fun l9 D9 => c_J0_coder_7d493 ho l9 D9) hd_J0_coder_7d493 kv447 kv448 kv449 (by show rm_J0_coder_7d493.frames + 1 ≤ rm_J0_length_8abf5.frames; decide) (by show 8 + (1 + 11) + rm_J0_coder_7d493.locals ≤ rm_J0_length_8abf5.locals; decide) (by show 0 + rm_J0_coder_7d493.cells ≤ rm_J0_length_8abf5.cells; decide) (by show 0 + rm_J0_coder_7d493.slots ≤ rm_J0_length_8abf5.slots; decide) rfl rfl (by show 1 ≤ 8; decide) dJ0_length_8abf5_6 (fun r9 w9 hp9 => ?_)
  obtain ⟨hr9, hw9⟩ := hp9
  rw [hr9, hw9]
  clear hr9 hw9
  show yW G ws 0 0 [(0, .ref a)] [.int 0, .int (nI bs.length)] 9
  refine y_ishr (z := nI bs.length) hG dJ0_length_8abf5_9 (jshr _) ?_
  exact hE _ _ _ _ dJ0_length_8abf5_10 ⟨rfl, rfl⟩
abbrev rm_J0_getBytes_840e7 : Room := { frames := 1, cells := 0, slots := 0, locals := 40 }
set_option maxRecDepth 100000 in
theorem c_J0_getBytes_840e7 {cB : ClassId} {os : List oSt} {b v n N : Nat} {g : Nat → Int32} {a va : Nat} {bs : List Nat} (ho : (a, va, bs) ∈ os) (hb : ∀ b ∈ bs, b < 128) (hn : n + bs.length ≤ N) (hNN : N < 2 ^ 30) : ∀ (l : Launch) (D : va_G), yMt l yJ0_getBytes_840e7 cJ0_getBytes_840e7 4 none rm_J0_getBytes_840e7 D cB [jB b v n, jA cB v N g] os [.ref a, .ref v, .int (nI n), .int 0] (fun r w => r = none ∧ w = [jB b v n, jA cB v N (va_cpy (fun j => nI (bs.getD j 0)) g 0 n bs.length)]) := by
  intro l D
  refine yMt.ofV (by decide +kernel) (Nat.le_of_ble_eq_true rfl) fun G hG hR hN hC hE => ?_
  refine y_aload_n 0 hG dJ0_getBytes_840e7_0 rfl rfl ?_
  refine y_callVS [] hG hC hR ho (fun l9 D9 => c_J0_coder_7d493 ho l9 D9) hd_J0_coder_7d493 kv447 kv448 kv449 (by show rm_J0_coder_7d493.frames + 1 ≤ rm_J0_getBytes_840e7.frames; decide) (by show 8 + (1 + 11) + rm_J0_coder_7d493.locals ≤ rm_J0_getBytes_840e7.locals; decide) (by show 0 + rm_J0_coder_7d493.cells ≤ rm_J0_getBytes_840e7.cells; decide) (by show 0 + rm_J0_coder_7d493.slots ≤ rm_J0_getBytes_840e7.slots; decide) rfl rfl (by show 0 ≤ 8; decide) dJ0_getBytes_840e7_1 (fun r9 w9 hp9 => ?_)
  obtain ⟨hr9, hw9⟩ := hp9
  rw [hr9, hw9]
  clear hr9 hw9
  show yW G [jB b v n, jA cB v N g] 0 0 [(0, .ref a), (1, .ref v), (2, .int (nI n)), (3, .int 0)] [.int 0] 4
  refine y_iload_n 3 hG dJ0_getBytes_840e7_4 rfl rfl ?_
  refine y_icmp_ne (tgt := 28) hG dJ0_getBytes_840e7_5 (by decide) (fun q9 => absurd q9 (by decide)) (fun _ => ?_)
  refine y_aload_n 0 hG dJ0_getBytes_840e7_8 rfl rfl ?_
  refine y_sval hG hC ho kv640 dJ0_getBytes_840e7_9 ?_
  refine y_iconst 0 hG dJ0_getBytes_840e7_12 (by decide) ?_
  refine y_aload_n 1 hG dJ0_getBytes_840e7_13 rfl rfl ?_
  refine y_iload_n 2 hG dJ0_getBytes_840e7_14 rfl rfl ?_
  refine y_iload_n 3 hG dJ0_getBytes_840e7_15 rfl rfl ?_
  refine y_ishl (z := nI n) hG dJ0_getBytes_840e7_16 (jshl _) ?_
  refine y_aload_n 0 hG dJ0_getBytes_840e7_17 rfl rfl ?_
  refine y_sval hG hC ho kv640 dJ0_getBytes_840e7_18 ?_
  refine y_slen hG hC ho dJ0_getBytes_840e7_21 ?_
  refine y_copyS (ws' := [jB b v n, jA cB v N (va_cpy (fun j => nI (bs.getD j 0)) g 0 n bs.length)]) 1 hG hC hR ⟨kv589, kv524, kv523, kv12⟩ ho rfl hn ⟨by omega, by omega⟩ hb (by show 1 ≤ rm_J0_getBytes_840e7.frames; decide) (by show 0 + 40 ≤ rm_J0_getBytes_840e7.locals; decide) rfl dJ0_getBytes_840e7_22 ?_
  refine y_goto (tgt := 43) hG dJ0_getBytes_840e7_25 (by decide) ?_
  exact hE _ _ _ dJ0_getBytes_840e7_43 ⟨rfl, rfl⟩
abbrev rm_J5_inflateIfNeededFor_a7421 : Room := { frames := 1, cells := 0, slots := 0, locals := 20 }
set_option maxRecDepth 100000 in
theorem c_J5_inflateIfNeededFor_a7421 {cB : ClassId} {os : List oSt} {b v n N : Nat} {g : Nat → Int32} {a va : Nat} {bs : List Nat} (ho : (a, va, bs) ∈ os) : ∀ (l : Launch) (D : va_G), yMt l yJ5_inflateIfNeededFor_a7421 cJ5_inflateIfNeededFor_a7421 2 none rm_J5_inflateIfNeededFor_a7421 D cB [jB b v n, jA cB v N g] os [.ref b, .ref a] (fun r w => r = none ∧ w = [jB b v n, jA cB v N g]) := by
  intro l D
  refine yMt.ofV (by decide +kernel) (Nat.le_of_ble_eq_true rfl) fun G hG hR hN hC hE => ?_
  refine y_compact hG kv462 dJ5_inflateIfNeededFor_a7421_0 ?_
  refine y_if_eq (tgt := 21) hG dJ5_inflateIfNeededFor_a7421_3 (by decide) (fun q9 => absurd q9 (by decide)) (fun _ => ?_)
  refine y_aload_n 0 hG dJ5_inflateIfNeededFor_a7421_6 rfl rfl ?_
  refine y_get (v := .int 0) 0 1 hG ycl1 rfl (by decide) rfl kv471 dJ5_inflateIfNeededFor_a7421_7 ?_
  refine y_aload_n 1 hG dJ5_inflateIfNeededFor_a7421_10 rfl rfl ?_
  refine y_callVS [] hG hC hR ho (fun l9 D9 => c_J0_coder_7d493 ho l9 D9) hd_J0_coder_7d493 kv565 kv448 kv449 (by show rm_J0_coder_7d493.frames + 1 ≤ rm_J5_inflateIfNeededFor_a7421.frames; decide) (by show 8 + (1 + 11) + rm_J0_coder_7d493.locals ≤ rm_J5_inflateIfNeededFor_a7421.locals; decide) (by show 0 + rm_J0_coder_7d493.cells ≤ rm_J5_inflateIfNeededFor_a7421.cells; decide) (by show 0 + rm_J0_coder_7d493.slots ≤ rm_J5_inflateIfNeededFor_a7421.slots; decide) rfl rfl (by show 1 ≤ 8; decide) dJ5_inflateIfNeededFor_a7421_11 (fun r9 w9 hp9 => ?_)
  obtain ⟨hr9, hw9⟩ := hp9
  rw [hr9, hw9]
  clear hr9 hw9
  show yW G [jB b v n, jA cB v N g] 0 0 [(0, .ref b), (1, .ref a)] [.int 0, .int 0] 14
  refine y_icmp_eq (tgt := 21) hG dJ5_inflateIfNeededFor_a7421_14 (by decide) (fun _ => ?_) (fun q9 => absurd rfl q9)
  exact hE _ _ _ dJ5_inflateIfNeededFor_a7421_21 ⟨rfl, rfl⟩
theorem hd_J5_inflateIfNeededFor_a7421 : zHead yJ5_inflateIfNeededFor_a7421 cJ5_inflateIfNeededFor_a7421 2 1 none := ⟨kv564, kv6, by decide +kernel, by decide +kernel, by decide +kernel⟩
theorem hd_J0_getBytes_840e7 : zHead yJ0_getBytes_840e7 cJ0_getBytes_840e7 4 3 none := ⟨kv588, kv5, by decide +kernel, by decide +kernel, by decide +kernel⟩
abbrev rm_J5_putStringAt_47b60 : Room := { frames := 2, cells := 0, slots := 0, locals := 63 }
set_option maxRecDepth 100000 in
theorem c_J5_putStringAt_47b60 {cB : ClassId} {os : List oSt} {b v n N : Nat} {g : Nat → Int32} {a va : Nat} {bs : List Nat} (ho : (a, va, bs) ∈ os) (hb : ∀ b ∈ bs, b < 128) (hn : n + bs.length ≤ N) (hNN : N < 2 ^ 30) : ∀ (l : Launch) (D : va_G), yMt l yJ5_putStringAt_47b60 cJ5_putStringAt_47b60 3 none rm_J5_putStringAt_47b60 D cB [jB b v n, jA cB v N g] os [.ref b, .int (nI n), .ref a] (fun r w => r = none ∧ w = [jB b v n, jA cB v N (va_cpy (fun j => nI (bs.getD j 0)) g 0 n bs.length)]) := by
  intro l D
  refine yMt.ofV (by decide +kernel) (Nat.le_of_ble_eq_true rfl) fun G hG hR hN hC hE => ?_
  refine y_aload_n 0 hG dJ5_putStringAt_47b60_0 rfl rfl ?_
  refine y_aload_n 2 hG dJ5_putStringAt_47b60_1 rfl rfl ?_
  refine y_callU (q0 := 0) [.ref a] hG hC hR (fun l9 D9 => c_J5_inflateIfNeededFor_a7421 ho l9 D9) hd_J5_inflateIfNeededFor_a7421 kv561 (by decide +kernel) ku756 (by decide +kernel) kv563 kv564 (ySel.p kv454 (by decide +kernel) ku562 kv563 ku756) kv563 rfl rfl (by show rm_J5_inflateIfNeededFor_a7421.frames + 1 ≤ rm_J5_putStringAt_47b60.frames; decide) (by show 8 + (2 + 11) + rm_J5_inflateIfNeededFor_a7421.locals ≤ rm_J5_putStringAt_47b60.locals; decide) (by show 0 + rm_J5_inflateIfNeededFor_a7421.cells ≤ rm_J5_putStringAt_47b60.cells; decide) (by show 0 + rm_J5_inflateIfNeededFor_a7421.slots ≤ rm_J5_putStringAt_47b60.slots; decide) rfl rfl (by show 0 ≤ 8; decide) dJ5_putStringAt_47b60_2 (fun r9 w9 hp9 => ?_)
  obtain ⟨hr9, hw9⟩ := hp9
  rw [hr9, hw9]
  clear hr9 hw9
  show yW G [jB b v n, jA cB v N g] 0 0 [(0, .ref b), (1, .int (nI n)), (2, .ref a)] [] 5
  refine y_aload_n 2 hG dJ5_putStringAt_47b60_5 rfl rfl ?_
  refine y_aload_n 0 hG dJ5_putStringAt_47b60_6 rfl rfl ?_
  refine y_get (v := .ref v) 0 0 hG ycl1 rfl (by decide) rfl kv470 dJ5_putStringAt_47b60_7 ?_
  refine y_iload_n 1 hG dJ5_putStringAt_47b60_10 rfl rfl ?_
  refine y_aload_n 0 hG dJ5_putStringAt_47b60_11 rfl rfl ?_
  refine y_get (v := .int 0) 0 1 hG ycl1 rfl (by decide) rfl kv471 dJ5_putStringAt_47b60_12 ?_
  refine y_callVS [.ref v, .int (nI n), .int 0] hG hC hR ho (fun l9 D9 => c_J0_getBytes_840e7 ho hb hn hNN l9 D9) hd_J0_getBytes_840e7 kv585 kv586 kv587 (by show rm_J0_getBytes_840e7.frames + 1 ≤ rm_J5_putStringAt_47b60.frames; decide) (by show 8 + (4 + 11) + rm_J0_getBytes_840e7.locals ≤ rm_J5_putStringAt_47b60.locals; decide) (by show 0 + rm_J0_getBytes_840e7.cells ≤ rm_J5_putStringAt_47b60.cells; decide) (by show 0 + rm_J0_getBytes_840e7.slots ≤ rm_J5_putStringAt_47b60.slots; decide) rfl rfl (by show 0 ≤ 8; decide) dJ5_putStringAt_47b60_15 (fun r9 w9 hp9 => ?_)
  obtain ⟨hr9, hw9⟩ := hp9
  rw [hr9, hw9]
  clear hr9 hw9
  show yW G [jB b v n, jA cB v N (va_cpy (fun j => nI (bs.getD j 0)) g 0 n bs.length)] 0 0 [(0, .ref b), (1, .int (nI n)), (2, .ref a)] [] 18
  exact hE _ _ _ dJ5_putStringAt_47b60_18 ⟨rfl, rfl⟩
abbrev rm_J8_newLength_cabcc : Room := { frames := 1, cells := 0, slots := 0, locals := 14 }
set_option maxRecDepth 100000 in
theorem c_J8_newLength_cabcc {cB : ClassId} {os : List oSt} {ws : va_W} {x y z : Nat} (h : x + max y z < 2 ^ 29) (h0 : 0 < x + max y z) : ∀ (l : Launch) (D : va_G), yMt l yJ8_newLength_cabcc cJ8_newLength_cabcc 4 (some .int) rm_J8_newLength_cabcc D cB ws os [.int (nI x), .int (nI y), .int (nI z)] (fun r w => r = some (.int (nI (x + max y z))) ∧ w = ws) := by
  intro l D
  refine yMt.ofI (by decide +kernel) (Nat.le_of_ble_eq_true rfl) fun G hG hR hN hC hE => ?_
  refine y_iload_n 0 hG dJ8_newLength_cabcc_0 rfl rfl ?_
  refine y_iload_n 1 hG dJ8_newLength_cabcc_1 rfl rfl ?_
  refine y_iload_n 2 hG dJ8_newLength_cabcc_2 rfl rfl ?_
  refine y_max hG hR ⟨kv505, kw248, kw12, kw249⟩ (by show 1 ≤ rm_J8_newLength_cabcc.frames; decide) (by show 1 + 13 ≤ rm_J8_newLength_cabcc.locals; decide) (by omega) (by omega) dJ8_newLength_cabcc_3 ?_
  refine y_iadd (z := nI (x + max y z)) hG dJ8_newLength_cabcc_6 (nI_add _ _) ?_
  refine y_istore_n (lv' := [(3, .int (nI (x + max y z))), (0, .int (nI x)), (1, .int (nI y)), (2, .int (nI z))]) hG dJ8_newLength_cabcc_7 rfl (by decide) rfl ?_
  refine y_iconst 0 hG dJ8_newLength_cabcc_8 (by decide) ?_
  refine y_iload_n 0 hG dJ8_newLength_cabcc_9 rfl rfl ?_
  refine y_icmp_ge (tgt := 21) hG dJ8_newLength_cabcc_10 (by decide) (fun q9 => absurd q9 (nI_nle h0 (by omega))) (fun _ => ?_)
  refine y_iload_n 0 hG dJ8_newLength_cabcc_13 rfl rfl ?_
  refine y_ldc hG kv506 dJ8_newLength_cabcc_14 ?_
  refine y_icmp_gt (tgt := 21) hG dJ8_newLength_cabcc_16 (by decide) (fun q9 => absurd q9 (show ¬ nI 2147483639 < nI (x + max y z) from nI_nlt (by omega) (by omega))) (fun _ => ?_)
  refine y_iload_n 0 hG dJ8_newLength_cabcc_19 rfl rfl ?_
  exact hE _ _ _ _ dJ8_newLength_cabcc_20 ⟨rfl, rfl⟩
theorem hd_J8_newLength_cabcc : zHead yJ8_newLength_cabcc cJ8_newLength_cabcc 4 3 (some .int) := ⟨kv504, kv9, by decide +kernel, by decide +kernel, by decide +kernel⟩
abbrev rm_J5_newCapacity_0f7a4 : Room := { frames := 2, cells := 0, slots := 0, locals := 37 }
set_option maxRecDepth 100000 in
theorem c_J5_newCapacity_0f7a4 {cB : ClassId} {os : List oSt} {b v n N : Nat} {g : Nat → Int32} {q : Nat} (hq : N < q) (hb : N + q < 1000) : ∀ (l : Launch) (D : va_G), yMt l yJ5_newCapacity_0f7a4 cJ5_newCapacity_0f7a4 6 (some .int) rm_J5_newCapacity_0f7a4 D cB [jB b v n, jA cB v N g] os [.ref b, .int (nI q)] (fun r w => r = some (.int (nI (N + max (q - N) (N + 2)))) ∧ w = [jB b v n, jA cB v N g]) := by
  intro l D
  refine yMt.ofI (by decide +kernel) (Nat.le_of_ble_eq_true rfl) fun G hG hR hN hC hE => ?_
  refine y_aload_n 0 hG dJ5_newCapacity_0f7a4_0 rfl rfl ?_
  refine y_get (v := .ref v) 0 0 hG ycl1 rfl (by decide) rfl kv470 dJ5_newCapacity_0f7a4_1 ?_
  refine y_alen 1 hG hC rfl dJ5_newCapacity_0f7a4_4 ?_
  refine y_istore_n (lv' := [(2, .int (nI N)), (0, .ref b), (1, .int (nI q))]) hG dJ5_newCapacity_0f7a4_5 rfl (by decide) rfl ?_
  refine y_iload_n 2 hG dJ5_newCapacity_0f7a4_6 rfl rfl ?_
  refine y_aload_n 1 hG dJ5_newCapacity_0f7a4_7 rfl rfl ?_
  refine y_get (v := .int 0) 0 1 hG ycl1 rfl (by decide) rfl kv471 dJ5_newCapacity_0f7a4_8 ?_
  refine y_ishl (z := nI q) hG dJ5_newCapacity_0f7a4_11 (jshl _) ?_
  refine y_istore_n (lv' := [(3, .int (nI q)), (2, .int (nI N)), (0, .ref b), (1, .int (nI q))]) hG dJ5_newCapacity_0f7a4_12 rfl (by decide) rfl ?_
  refine y_iload_n 0 hG dJ5_newCapacity_0f7a4_13 rfl rfl ?_
  refine y_iload_n 1 hG dJ5_newCapacity_0f7a4_14 rfl rfl ?_
  refine y_isub (z := nI (q - N)) hG dJ5_newCapacity_0f7a4_15 (pk_sub (by omega)) ?_
  refine y_istore (lv' := [(4, .int (nI (q - N))), (3, .int (nI q)), (2, .int (nI N)), (0, .ref b), (1, .int (nI q))]) hG dJ5_newCapacity_0f7a4_16 (by decide) rfl ?_
  refine y_iload_n 2 hG dJ5_newCapacity_0f7a4_18 rfl rfl ?_
  refine y_iload 0 hG dJ5_newCapacity_0f7a4_19 rfl ?_
  refine y_iload_n 2 hG dJ5_newCapacity_0f7a4_21 rfl rfl ?_
  refine y_iconst 2 hG dJ5_newCapacity_0f7a4_22 (by decide) ?_
  refine y_aload_n 3 hG dJ5_newCapacity_0f7a4_23 rfl rfl ?_
  refine y_get (v := .int 0) 0 1 hG ycl1 rfl (by decide) rfl kv471 dJ5_newCapacity_0f7a4_24 ?_
  refine y_ishl (z := 2) hG dJ5_newCapacity_0f7a4_27 (jshl _) ?_
  refine y_iadd (z := nI (N + 2)) hG dJ5_newCapacity_0f7a4_28 (nI_add N 2) ?_
  refine y_callS [.int (nI N), .int (nI (q - N)), .int (nI (N + 2))] hG hC hR (fun l9 D9 => c_J8_newLength_cabcc (by omega) (by omega) l9 D9) hd_J8_newLength_cabcc kv502 kv503 (by show rm_J8_newLength_cabcc.frames + 1 ≤ rm_J5_newCapacity_0f7a4.frames; decide) (by show 8 + (4 + 11) + rm_J8_newLength_cabcc.locals ≤ rm_J5_newCapacity_0f7a4.locals; decide) (by show 0 + rm_J8_newLength_cabcc.cells ≤ rm_J5_newCapacity_0f7a4.cells; decide) (by show 0 + rm_J8_newLength_cabcc.slots ≤ rm_J5_newCapacity_0f7a4.slots; decide) rfl rfl (by show 0 ≤ 8; decide) dJ5_newCapacity_0f7a4_29 (fun r9 w9 hp9 => ?_)
  obtain ⟨hr9, hw9⟩ := hp9
  rw [hr9, hw9]
  clear hr9 hw9
  show yW G [jB b v n, jA cB v N g] 0 0 [(4, .int (nI (q - N))), (3, .int (nI q)), (2, .int (nI N)), (0, .ref b), (1, .int (nI q))] [.int (nI (N + max (q - N) (N + 2)))] 32
  refine y_istore (lv' := [(5, .int (nI (N + max (q - N) (N + 2)))), (4, .int (nI (q - N))), (3, .int (nI q)), (2, .int (nI N)), (0, .ref b), (1, .int (nI q))]) hG dJ5_newCapacity_0f7a4_32 (by decide) rfl ?_
  refine y_iload 0 hG dJ5_newCapacity_0f7a4_34 rfl ?_
  refine y_ldc hG kv510 dJ5_newCapacity_0f7a4_36 ?_
  refine y_icmp_ne (tgt := 51) hG dJ5_newCapacity_0f7a4_38 (by decide) (fun _ => ?_) (fun q9 => absurd q9 (jnmax (by omega)))
  refine y_iload 0 hG dJ5_newCapacity_0f7a4_51 rfl ?_
  refine y_aload_n 4 hG dJ5_newCapacity_0f7a4_53 rfl rfl ?_
  refine y_get (v := .int 0) 0 1 hG ycl1 rfl (by decide) rfl kv471 dJ5_newCapacity_0f7a4_54 ?_
  refine y_ishr (z := nI (N + max (q - N) (N + 2))) hG dJ5_newCapacity_0f7a4_57 (jshr _) ?_
  exact hE _ _ _ _ dJ5_newCapacity_0f7a4_58 ⟨rfl, rfl⟩
abbrev rm_J7_copyOf_9075b : Room := { frames := 1, cells := 1, slots := 220, locals := 40 }
set_option maxRecDepth 100000 in
theorem c_J7_copyOf_9075b {cB : ClassId} {os : List oSt} {b v n N : Nat} {g : Nat → Int32} {M : Nat} (hM : N < M) (hM2 : M ≤ 220) (hg : ∀ j, fits .byte (.int (g j)) = true) : ∀ (l : Launch) (D : va_G), yMt l yJ7_copyOf_9075b cJ7_copyOf_9075b 3 (some (.array .byte)) rm_J7_copyOf_9075b D cB [jB b v n, jA cB v N g] os [.ref v, .int (nI M)] (fun r w => ∃ x, r = some (.ref x) ∧ w = [jB b v n, jA cB v N g, jA cB x M (va_cpy g (fun _ => 0) 0 0 (min N M))]) := by
  intro l D
  refine yMt.ofA (Or.inr ⟨_, rfl⟩) (by decide +kernel) (Nat.le_of_ble_eq_true rfl) fun G hG hR hN hC hE => ?_
  refine y_iload_n 1 hG dJ7_copyOf_9075b_0 rfl rfl ?_
  refine y_aload_n 0 hG dJ7_copyOf_9075b_1 rfl rfl ?_
  refine y_alen 1 hG hC rfl dJ7_copyOf_9075b_2 ?_
  refine y_icmp_ne (tgt := 14) hG dJ7_copyOf_9075b_3 (by decide) (fun _ => ?_) (fun q9 => absurd q9 (jneq (by omega) (by omega) (by omega)))
  refine y_iload_n 1 hG dJ7_copyOf_9075b_14 rfl rfl ?_
  refine y_newB (N := M) hG hC hR kw68 (by omega) (by show 0 + 1 ≤ 1; decide) (by show 0 + _ ≤ 220; omega) dJ7_copyOf_9075b_15 (fun x => ?_)
  show yW G [jB b v n, jA cB v N g, jA cB x M (fun _ => 0)] 1 (0 + M) [(0, .ref v), (1, .int (nI M))] [.ref x] 17
  refine y_astore_n (lv' := [(2, .ref x), (0, .ref v), (1, .int (nI M))]) hG dJ7_copyOf_9075b_17 rfl (by decide) rfl ?_
  refine y_aload_n 1 hG dJ7_copyOf_9075b_18 rfl rfl ?_
  refine y_iconst 0 hG dJ7_copyOf_9075b_19 (by decide) ?_
  refine y_aload_n 0 hG dJ7_copyOf_9075b_20 rfl rfl ?_
  refine y_iconst 0 hG dJ7_copyOf_9075b_21 (by decide) ?_
  refine y_aload_n 1 hG dJ7_copyOf_9075b_22 rfl rfl ?_
  refine y_alen 1 hG hC rfl dJ7_copyOf_9075b_23 ?_
  refine y_iload_n 2 hG dJ7_copyOf_9075b_24 rfl rfl ?_
  refine y_min hG hR ⟨kv521, kw226, kw12, kw227⟩ (by show 1 ≤ rm_J7_copyOf_9075b.frames; decide) (by show 4 + 13 ≤ rm_J7_copyOf_9075b.locals; decide) (by omega) (by omega) dJ7_copyOf_9075b_25 ?_
  refine y_copy (ws' := [jB b v n, jA cB v N g, jA cB x M (va_cpy g (fun _ => 0) 0 0 (min N M))]) (sp := 0) (dp := 0) 1 2 hG hC hR ⟨kv522, kv524, kv523, kv12⟩ rfl rfl (by omega) (by omega) ⟨by omega, by omega⟩ (fun i _ => hg _) (by show 1 ≤ rm_J7_copyOf_9075b.frames; decide) (by show 0 + 40 ≤ rm_J7_copyOf_9075b.locals; decide) rfl dJ7_copyOf_9075b_28 ?_
  refine y_aload_n 0 hG dJ7_copyOf_9075b_31 rfl rfl ?_
  refine y_widen (k := rm_J7_copyOf_9075b.cells) (n := rm_J7_copyOf_9075b.slots) (by decide) (by first | decide | (show (0 + M) ≤ 220; omega)) hR (by decide) (by decide) ?_
  exact hE _ _ _ _ dJ7_copyOf_9075b_32 ⟨x, rfl, rfl⟩
theorem hd_J5_newCapacity_0f7a4 : zHead yJ5_newCapacity_0f7a4 cJ5_newCapacity_0f7a4 6 1 (some .int) := ⟨kv501, kv6, by decide +kernel, by decide +kernel, by decide +kernel⟩
theorem hd_J7_copyOf_9075b : zHead yJ7_copyOf_9075b cJ7_copyOf_9075b 3 2 (some (.array .byte)) := ⟨kv513, kv11, by decide +kernel, by decide +kernel, by decide +kernel⟩
abbrev rm_J5_ensureCapacityInternal_d00df : Room := { frames := 3, cells := 1, slots := 220, locals := 62 }
set_option maxRecDepth 100000 in
theorem c_J5_ensureCapacityInternal_d00df {cB : ClassId} {os : List oSt} {b v n N : Nat} {g : Nat → Int32} {q : Nat} (hq : N < q) (hb : (N + max (q - N) (N + 2)) ≤ 220) (hg : ∀ j, fits .byte (.int (g j)) = true) : ∀ (l : Launch) (D : va_G), yMt l yJ5_ensureCapacityInternal_d00df cJ5_ensureCapacityInternal_d00df 3 none rm_J5_ensureCapacityInternal_d00df D cB [jB b v n, jA cB v N g] os [.ref b, .int (nI q)] (fun r w => ∃ x, r = none ∧ w = [jB b x n, jA cB x (N + max (q - N) (N + 2)) (va_cpy g (fun _ => 0) 0 0 (min N (N + max (q - N) (N + 2))))]) := by
  intro l D
  refine yMt.ofV (by decide +kernel) (Nat.le_of_ble_eq_true rfl) fun G hG hR hN hC hE => ?_
  refine y_aload_n 0 hG dJ5_ensureCapacityInternal_d00df_0 rfl rfl ?_
  refine y_get (v := .ref v) 0 0 hG ycl1 rfl (by decide) rfl kv470 dJ5_ensureCapacityInternal_d00df_1 ?_
  refine y_alen 1 hG hC rfl dJ5_ensureCapacityInternal_d00df_4 ?_
  refine y_aload_n 0 hG dJ5_ensureCapacityInternal_d00df_5 rfl rfl ?_
  refine y_get (v := .int 0) 0 1 hG ycl1 rfl (by decide) rfl kv471 dJ5_ensureCapacityInternal_d00df_6 ?_
  refine y_ishr (z := nI N) hG dJ5_ensureCapacityInternal_d00df_9 (jshr _) ?_
  refine y_istore_n (lv' := [(2, .int (nI N)), (0, .ref b), (1, .int (nI q))]) hG dJ5_ensureCapacityInternal_d00df_10 rfl (by decide) rfl ?_
  refine y_iload_n 2 hG dJ5_ensureCapacityInternal_d00df_11 rfl rfl ?_
  refine y_iload_n 0 hG dJ5_ensureCapacityInternal_d00df_12 rfl rfl ?_
  refine y_isub (z := (nI q - nI N)) hG dJ5_ensureCapacityInternal_d00df_13 rfl ?_
  refine y_if_le (tgt := 38) hG dJ5_ensureCapacityInternal_d00df_14 (by decide) (fun q9 => absurd q9 (jnle0 hq (by omega))) (fun _ => ?_)
  refine y_aload_n 1 hG dJ5_ensureCapacityInternal_d00df_17 rfl rfl ?_
  refine y_aload_n 1 hG dJ5_ensureCapacityInternal_d00df_18 rfl rfl ?_
  refine y_get (v := .ref v) 0 0 hG ycl1 rfl (by decide) rfl kv470 dJ5_ensureCapacityInternal_d00df_19 ?_
  refine y_aload_n 1 hG dJ5_ensureCapacityInternal_d00df_22 rfl rfl ?_
  refine y_iload_n 2 hG dJ5_ensureCapacityInternal_d00df_23 rfl rfl ?_
  refine y_callU (q0 := 0) [.int (nI q)] hG hC hR (fun l9 D9 => c_J5_newCapacity_0f7a4 hq (by omega) l9 D9) hd_J5_newCapacity_0f7a4 kv498 (by decide +kernel) ku754 (by decide +kernel) kv500 kv501 (ySel.p kv454 (by decide +kernel) ku499 kv500 ku754) kv500 rfl rfl (by show rm_J5_newCapacity_0f7a4.frames + 1 ≤ rm_J5_ensureCapacityInternal_d00df.frames; decide) (by show 8 + (6 + 11) + rm_J5_newCapacity_0f7a4.locals ≤ rm_J5_ensureCapacityInternal_d00df.locals; decide) (by show 0 + rm_J5_newCapacity_0f7a4.cells ≤ rm_J5_ensureCapacityInternal_d00df.cells; decide) (by show 0 + rm_J5_newCapacity_0f7a4.slots ≤ rm_J5_ensureCapacityInternal_d00df.slots; decide) rfl rfl (by show 2 ≤ 8; decide) dJ5_ensureCapacityInternal_d00df_24 (fun r9 w9 hp9 => ?_)
  obtain ⟨hr9, hw9⟩ := hp9
  rw [hr9, hw9]
  clear hr9 hw9
  show yW G [jB b v n, jA cB v N g] 0 0 [(2, .int (nI N)), (0, .ref b), (1, .int (nI q))] [.int (nI (N + max (q - N) (N + 2))), .ref v, .ref b] 27
  refine y_aload_n 1 hG dJ5_ensureCapacityInternal_d00df_27 rfl rfl ?_
  refine y_get (v := .int 0) 0 1 hG ycl1 rfl (by decide) rfl kv471 dJ5_ensureCapacityInternal_d00df_28 ?_
  refine y_ishl (z := nI (N + max (q - N) (N + 2))) hG dJ5_ensureCapacityInternal_d00df_31 (jshl _) ?_
  refine y_callS [.ref v, .int (nI (N + max (q - N) (N + 2)))] hG hC hR (fun l9 D9 => c_J7_copyOf_9075b (M := (N + max (q - N) (N + 2))) (by omega) hb hg l9 D9) hd_J7_copyOf_9075b kv511 kv512 (by show rm_J7_copyOf_9075b.frames + 1 ≤ rm_J5_ensureCapacityInternal_d00df.frames; decide) (by show 8 + (3 + 11) + rm_J7_copyOf_9075b.locals ≤ rm_J5_ensureCapacityInternal_d00df.locals; decide) (by show 0 + rm_J7_copyOf_9075b.cells ≤ rm_J5_ensureCapacityInternal_d00df.cells; decide) (by show 0 + rm_J7_copyOf_9075b.slots ≤ rm_J5_ensureCapacityInternal_d00df.slots; decide) rfl rfl (by show 1 ≤ 8; decide) dJ5_ensureCapacityInternal_d00df_32 (fun r9 w9 hp9 => ?_)
  obtain ⟨x, rfl, rfl⟩ := hp9
  show yW G [jB b v n, jA cB v N g, jA cB x (N + max (q - N) (N + 2)) (va_cpy g (fun _ => 0) 0 0 (min N (N + max (q - N) (N + 2))))] 1 220 [(2, .int (nI N)), (0, .ref b), (1, .int (nI q))] [.ref x, .ref b] 35
  refine y_put (ws' := [jB b x n, jA cB v N g, jA cB x (N + max (q - N) (N + 2)) (va_cpy g (fun _ => 0) 0 0 (min N (N + max (q - N) (N + 2))))]) 0 0 hG ycl1 rfl (by decide) (by show 0 < 4; decide) kv470 rfl rfl rfl rfl dJ5_ensureCapacityInternal_d00df_35 ?_
  refine y_sub [0, 2] rfl (ws' := [jB b x n, jA cB x (N + max (q - N) (N + 2)) (va_cpy g (fun _ => 0) 0 0 (min N (N + max (q - N) (N + 2))))]) rfl ?_
  exact hE _ _ _ dJ5_ensureCapacityInternal_d00df_38 ⟨x, rfl, rfl⟩
set_option maxRecDepth 100000 in
theorem c_J5_ensureCapacityInternal_d00dfr {cB : ClassId} {os : List oSt} {b v n N : Nat} {g : Nat → Int32} {q : Nat} (hq : q ≤ N) (hb : N ≤ 220) : ∀ (l : Launch) (D : va_G), yMt l yJ5_ensureCapacityInternal_d00df cJ5_ensureCapacityInternal_d00df 3 none rm_J5_ensureCapacityInternal_d00df D cB [jB b v n, jA cB v N g] os [.ref b, .int (nI q)] (fun r w => r = none ∧ w = [jB b v n, jA cB v N g]) := by
  intro l D
  refine yMt.ofV (by decide +kernel) (Nat.le_of_ble_eq_true rfl) fun G hG hR hN hC hE => ?_
  refine y_aload_n 0 hG dJ5_ensureCapacityInternal_d00df_0 rfl rfl ?_
  refine y_get (v := .ref v) 0 0 hG ycl1 rfl (by decide) rfl kv470 dJ5_ensureCapacityInternal_d00df_1 ?_
  refine y_alen 1 hG hC rfl dJ5_ensureCapacityInternal_d00df_4 ?_
  refine y_aload_n 0 hG dJ5_ensureCapacityInternal_d00df_5 rfl rfl ?_
  refine y_get (v := .int 0) 0 1 hG ycl1 rfl (by decide) rfl kv471 dJ5_ensureCapacityInternal_d00df_6 ?_
  refine y_ishr (z := nI N) hG dJ5_ensureCapacityInternal_d00df_9 (jshr _) ?_
  refine y_istore_n (lv' := [(2, .int (nI N)), (0, .ref b), (1, .int (nI q))]) hG dJ5_ensureCapacityInternal_d00df_10 rfl (by decide) rfl ?_
  refine y_iload_n 2 hG dJ5_ensureCapacityInternal_d00df_11 rfl rfl ?_
  refine y_iload_n 0 hG dJ5_ensureCapacityInternal_d00df_12 rfl rfl ?_
  refine y_isub (z := (nI q - nI N)) hG dJ5_ensureCapacityInternal_d00df_13 rfl ?_
  refine y_if_le (tgt := 38) hG dJ5_ensureCapacityInternal_d00df_14 (by decide) (fun _ => ?_) (fun q9 => absurd (jle0 hq (by omega)) q9)
  refine y_widen (k := rm_J5_ensureCapacityInternal_d00df.cells) (n := rm_J5_ensureCapacityInternal_d00df.slots) (by decide) (by first | decide | (show 0 ≤ 220; omega)) hR (by decide) (by decide) ?_
  exact hE _ _ _ dJ5_ensureCapacityInternal_d00df_38 ⟨rfl, rfl⟩
def jF (g : Nat → Int32) : Prop := ∀ j, fits .byte (.int (g j)) = true
theorem jF.cpy {f g : Nat → Int32} {sp dp n : Nat} (hf : jF f) (hg : jF g) : jF (va_cpy f g sp dp n) := fun j => by
  unfold va_cpy
  split
  · exact hf _
  · exact hg _
theorem jF0 : jF (fun _ => 0) := fun _ => (by decide : fits .byte (.int 0) = true)
theorem jFb {bs : List Nat} (h : ∀ b ∈ bs, b < 128) : jF (fun j => nI (bs.getD j 0)) := fun j => by
  have hm : bs.getD j 0 < 128 := by
    rw [List.getD_eq_getElem?_getD]
    by_cases hj : j < bs.length
    · rw [List.getElem?_eq_getElem hj]
      exact h _ (List.getElem_mem hj)
    · rw [List.getElem?_eq_none (by omega)]
      decide
  have := pk_fb (nI (bs.getD j 0))
  have e9 : (nI (bs.getD j 0)).toInt8.toInt32 = nI (bs.getD j 0) := zI_byte (z := (bs.getD j 0 : Nat)) (by omega) (by omega)
  rw [e9] at this
  exact this
theorem yMt.weaken {l : Launch} {y : MethodName} {cc : ByteArray} {maxL : Nat} {ret : Option FieldType} {rm : Room} {D : va_G} {cB : ClassId} {ws : va_W} {os : List oSt} {av : List Value} {post post' : Option Value → va_W → Prop} (h : yMt l y cc maxL ret rm D cB ws os av post) (hp : ∀ r w, post r w → post' r w) : yMt l y cc maxL ret rm D cB ws os av post' := by
  intro sz
  refine MetFree.mono (h sz) (fun _ _ h => h) (fun _ _ _ _ _ h => h) (fun a s o t _ q => ?_)
  obtain ⟨⟨⟨r, w, h1, h2, h3⟩, h4⟩, h5⟩ := q
  exact ⟨⟨⟨r, w, h1, hp r w h2, h3⟩, h4⟩, h5⟩
theorem c_ens {cB : ClassId} {os : List oSt} {b v n N : Nat} {g : Nat → Int32} {q : Nat} (hN : N ≤ 220) (hb : N + max (q - N) (N + 2) ≤ 220) (hg : jF g) : ∀ (l : Launch) (D : va_G), yMt l yJ5_ensureCapacityInternal_d00df cJ5_ensureCapacityInternal_d00df 3 none rm_J5_ensureCapacityInternal_d00df D cB [jB b v n, jA cB v N g] os [.ref b, .int (nI q)] (fun r w => ∃ v' N' g', r = none ∧ w = [jB b v' n, jA cB v' N' g'] ∧ q ≤ N' ∧ N ≤ N' ∧ N' ≤ N + max (q - N) (N + 2) ∧ jF g' ∧ ∀ j, j < N → g' j = g j) := by
  intro l D
  by_cases hq : N < q
  · refine (c_J5_ensureCapacityInternal_d00df hq hb hg l D).weaken ?_
    rintro r w ⟨x, h1, h2⟩
    refine ⟨x, _, _, h1, h2, by omega, by omega, Nat.le_refl _, hg.cpy jF0, fun j hj => ?_⟩
    unfold va_cpy
    rw [if_pos (by omega)]
    congr 1
    omega
  · refine (c_J5_ensureCapacityInternal_d00dfr (by omega) hN l D).weaken ?_
    rintro r w ⟨h1, h2⟩
    exact ⟨v, N, g, h1, h2, by omega, by omega, by omega, hg, fun j _ => rfl⟩

theorem hd_J0_length_8abf5 : zHead yJ0_length_8abf5 cJ0_length_8abf5 1 0 (some .int) := ⟨kv446, kv5, by decide +kernel, by decide +kernel, by decide +kernel⟩
theorem hd_J5_ensureCapacityInternal_d00df : zHead yJ5_ensureCapacityInternal_d00df cJ5_ensureCapacityInternal_d00df 3 1 none := ⟨kv497, kv6, by decide +kernel, by decide +kernel, by decide +kernel⟩
theorem hd_J5_putStringAt_47b60 : zHead yJ5_putStringAt_47b60 cJ5_putStringAt_47b60 3 2 none := ⟨kv560, kv6, by decide +kernel, by decide +kernel, by decide +kernel⟩
abbrev rm_J5_append_cf1ce : Room := { frames := 4, cells := 1, slots := 220, locals := 85 }
set_option maxRecDepth 100000 in
theorem c_J5_append_cf1ce {cB : ClassId} {os : List oSt} {b v n N : Nat} {g : Nat → Int32} {a va : Nat} {bs : List Nat} (ho : (a, va, bs) ∈ os) (hb : ∀ b ∈ bs, b < 128) (hnN : n ≤ N) (hN2 : N ≤ 220) (hq2 : N + max (n + bs.length - N) (N + 2) ≤ 220) (hg : jF g) : ∀ (l : Launch) (D : va_G), yMt l yJ5_append_cf1ce cJ5_append_cf1ce 3 (some (.object "java/lang/AbstractStringBuilder")) rm_J5_append_cf1ce D cB [jB b v n, jA cB v N g] os [.ref b, .ref a] (fun r w => (∃ v' N' g', r = some (.ref b) ∧ w = [jB b v' (n + bs.length), jA cB v' N' g'] ∧ n + bs.length ≤ N' ∧ N ≤ N' ∧ N' ≤ N + max (n + bs.length - N) (N + 2) ∧ jF g' ∧ (∀ j, j < n → g' j = g j) ∧ ∀ j, j < bs.length → g' (n + j) = nI (bs.getD j 0))) := by
  intro l D
  refine yMt.ofA (Or.inl ⟨_, rfl⟩) (by decide +kernel) (Nat.le_of_ble_eq_true rfl) fun G hG hR hN hC hE => ?_
  refine y_aload_n 1 hG dJ5_append_cf1ce_0 rfl rfl ?_
  refine y_nonnull (tgt := 9) hG dJ5_append_cf1ce_1 (by decide) ?_
  refine y_aload_n 1 hG dJ5_append_cf1ce_9 rfl rfl ?_
  refine y_callVS [] hG hC hR ho (fun l9 D9 => c_J0_length_8abf5 ho l9 D9) hd_J0_length_8abf5 kv556 kv444 kv445 (by show rm_J0_length_8abf5.frames + 1 ≤ rm_J5_append_cf1ce.frames; decide) (by show 8 + (1 + 11) + rm_J0_length_8abf5.locals ≤ rm_J5_append_cf1ce.locals; decide) (by show 0 + rm_J0_length_8abf5.cells ≤ rm_J5_append_cf1ce.cells; decide) (by show 0 + rm_J0_length_8abf5.slots ≤ rm_J5_append_cf1ce.slots; decide) rfl rfl (by show 0 ≤ 8; decide) dJ5_append_cf1ce_10 (fun r9 w9 hp9 => ?_)
  obtain ⟨hr9, hw9⟩ := hp9
  rw [hr9, hw9]
  clear hr9 hw9
  show yW G [jB b v n, jA cB v N g] 0 0 [(0, .ref b), (1, .ref a)] [.int (nI bs.length)] 13
  refine y_istore_n (lv' := [(2, .int (nI bs.length)), (0, .ref b), (1, .ref a)]) hG dJ5_append_cf1ce_13 rfl (by decide) rfl ?_
  refine y_aload_n 1 hG dJ5_append_cf1ce_14 rfl rfl ?_
  refine y_aload_n 1 hG dJ5_append_cf1ce_15 rfl rfl ?_
  refine y_get (v := .int (nI n)) 0 3 hG ycl1 rfl (by decide) rfl kv473 dJ5_append_cf1ce_16 ?_
  refine y_iload_n 0 hG dJ5_append_cf1ce_19 rfl rfl ?_
  refine y_iadd (z := nI (n + bs.length)) hG dJ5_append_cf1ce_20 (nI_add _ _) ?_
  refine y_callU (q0 := 0) [.int (nI (n + bs.length))] hG hC hR (fun l9 D9 => c_ens hN2 hq2 hg l9 D9) hd_J5_ensureCapacityInternal_d00df kv494 (by decide +kernel) ku753 (by decide +kernel) kv496 kv497 (ySel.p kv454 (by decide +kernel) ku495 kv496 ku753) kv496 rfl rfl (by show rm_J5_ensureCapacityInternal_d00df.frames + 1 ≤ rm_J5_append_cf1ce.frames; decide) (by show 8 + (3 + 11) + rm_J5_ensureCapacityInternal_d00df.locals ≤ rm_J5_append_cf1ce.locals; decide) (by show 0 + rm_J5_ensureCapacityInternal_d00df.cells ≤ rm_J5_append_cf1ce.cells; decide) (by show 0 + rm_J5_ensureCapacityInternal_d00df.slots ≤ rm_J5_append_cf1ce.slots; decide) rfl rfl (by show 0 ≤ 8; decide) dJ5_append_cf1ce_21 (fun r9 w9 hp9 => ?_)
  obtain ⟨v1, N1, g1, rfl, rfl, q1, q2, q3, q4, q5⟩ := hp9
  show yW G [jB b v1 n, jA cB v1 N1 g1] 1 220 [(2, .int (nI bs.length)), (0, .ref b), (1, .ref a)] [] 24
  refine y_aload_n 1 hG dJ5_append_cf1ce_24 rfl rfl ?_
  refine y_aload_n 1 hG dJ5_append_cf1ce_25 rfl rfl ?_
  refine y_get (v := .int (nI n)) 0 3 hG ycl1 rfl (by decide) rfl kv473 dJ5_append_cf1ce_26 ?_
  refine y_aload_n 2 hG dJ5_append_cf1ce_29 rfl rfl ?_
  refine y_callU (q0 := 0) [.int (nI n), .ref a] hG hC hR (fun l9 D9 => c_J5_putStringAt_47b60 ho hb q1 (by omega) l9 D9) hd_J5_putStringAt_47b60 kv557 (by decide +kernel) ku755 (by decide +kernel) kv559 kv560 (ySel.p kv454 (by decide +kernel) ku558 kv559 ku755) kv559 rfl rfl (by show rm_J5_putStringAt_47b60.frames + 1 ≤ rm_J5_append_cf1ce.frames; decide) (by show 8 + (3 + 11) + rm_J5_putStringAt_47b60.locals ≤ rm_J5_append_cf1ce.locals; decide) (by show 1 + rm_J5_putStringAt_47b60.cells ≤ rm_J5_append_cf1ce.cells; decide) (by show 220 + rm_J5_putStringAt_47b60.slots ≤ rm_J5_append_cf1ce.slots; decide) rfl rfl (by show 0 ≤ 8; decide) dJ5_append_cf1ce_30 (fun r9 w9 hp9 => ?_)
  obtain ⟨hr9, hw9⟩ := hp9
  rw [hr9, hw9]
  clear hr9 hw9
  show yW G [jB b v1 n, jA cB v1 N1 (va_cpy (fun j => nI (bs.getD j 0)) g1 0 n bs.length)] 1 220 [(2, .int (nI bs.length)), (0, .ref b), (1, .ref a)] [] 33
  refine y_aload_n 1 hG dJ5_append_cf1ce_33 rfl rfl ?_
  refine y_dup hG dJ5_append_cf1ce_34 rfl ?_
  refine y_get (v := .int (nI n)) 0 3 hG ycl1 rfl (by decide) rfl kv473 dJ5_append_cf1ce_35 ?_
  refine y_iload_n 0 hG dJ5_append_cf1ce_38 rfl rfl ?_
  refine y_iadd (z := nI (n + bs.length)) hG dJ5_append_cf1ce_39 (nI_add _ _) ?_
  refine y_put (ws' := [jB b v1 (n + bs.length), jA cB v1 N1 (va_cpy (fun j => nI (bs.getD j 0)) g1 0 n bs.length)]) 0 3 hG ycl1 rfl (by decide) (by show 3 < 4; decide) kv473 rfl rfl rfl rfl dJ5_append_cf1ce_40 ?_
  refine y_aload_n 1 hG dJ5_append_cf1ce_43 rfl rfl ?_
  exact hE _ _ _ _ dJ5_append_cf1ce_44 ⟨v1, N1, _, rfl, rfl, q1, q2, q3, (jFb hb).cpy q4, fun j hj => by
    unfold va_cpy
    rw [if_neg (by omega)]
    exact q5 j (by omega), fun j hj => by
    unfold va_cpy
    rw [if_pos (by omega)]
    congr 2
    omega⟩
theorem hd_J5_append_cf1ce : zHead yJ5_append_cf1ce cJ5_append_cf1ce 3 1 (some (.object "java/lang/AbstractStringBuilder")) := ⟨kv489, kv6, by decide +kernel, by decide +kernel, by decide +kernel⟩
abbrev rm_J4_append_15ec4 : Room := { frames := 5, cells := 1, slots := 220, locals := 107 }
set_option maxRecDepth 100000 in
theorem c_J4_append_15ec4 {cB : ClassId} {os : List oSt} {b v n N : Nat} {g : Nat → Int32} {a va : Nat} {bs : List Nat} (ho : (a, va, bs) ∈ os) (hb : ∀ b ∈ bs, b < 128) (hnN : n ≤ N) (hN2 : N ≤ 220) (hq2 : N + max (n + bs.length - N) (N + 2) ≤ 220) (hg : jF g) : ∀ (l : Launch) (D : va_G), yMt l yJ4_append_15ec4 cJ4_append_15ec4 2 (some (.object "java/lang/StringBuilder")) rm_J4_append_15ec4 D cB [jB b v n, jA cB v N g] os [.ref b, .ref a] (fun r w => (∃ v' N' g', r = some (.ref b) ∧ w = [jB b v' (n + bs.length), jA cB v' N' g'] ∧ n + bs.length ≤ N' ∧ N ≤ N' ∧ N' ≤ N + max (n + bs.length - N) (N + 2) ∧ jF g' ∧ (∀ j, j < n → g' j = g j) ∧ ∀ j, j < bs.length → g' (n + j) = nI (bs.getD j 0))) := by
  intro l D
  refine yMt.ofA (Or.inl ⟨_, rfl⟩) (by decide +kernel) (Nat.le_of_ble_eq_true rfl) fun G hG hR hN hC hE => ?_
  refine y_aload_n 0 hG dJ4_append_15ec4_0 rfl rfl ?_
  refine y_aload_n 1 hG dJ4_append_15ec4_1 rfl rfl ?_
  refine y_callSU (q0 := 0) [.ref a] hG hC hR (fun l9 D9 => c_J5_append_cf1ce ho hb hnN hN2 hq2 hg l9 D9) hd_J5_append_cf1ce (by decide +kernel) kv487 ku751 ku482 kv488 rfl rfl (by show rm_J5_append_cf1ce.frames + 1 ≤ rm_J4_append_15ec4.frames; decide) (by show 8 + (3 + 11) + rm_J5_append_cf1ce.locals ≤ rm_J4_append_15ec4.locals; decide) (by show 0 + rm_J5_append_cf1ce.cells ≤ rm_J4_append_15ec4.cells; decide) (by show 0 + rm_J5_append_cf1ce.slots ≤ rm_J4_append_15ec4.slots; decide) rfl rfl (by show 0 ≤ 8; decide) dJ4_append_15ec4_2 (fun r9 w9 hp9 => ?_)
  obtain ⟨v1, N1, g1, rfl, rfl, q1⟩ := hp9
  show yW G [jB b v1 (n + bs.length), jA cB v1 N1 g1] 1 220 [(0, .ref b), (1, .ref a)] [.ref b] 5
  refine y_pop hG dJ4_append_15ec4_5 rfl ?_
  refine y_aload_n 0 hG dJ4_append_15ec4_6 rfl rfl ?_
  exact hE _ _ _ _ dJ4_append_15ec4_7 ⟨v1, N1, g1, rfl, rfl, q1⟩
abbrev rm_J5_init_d00df : Room := { frames := 1, cells := 1, slots := 16, locals := 12 }
set_option maxRecDepth 100000 in
theorem c_J5_init_d00df {cB : ClassId} {os : List oSt} {b : Nat}  : ∀ (l : Launch) (D : va_G), yMt l yJ5_init_d00df cJ5_init_d00df 2 none rm_J5_init_d00df D cB [jO 1 b] os [.ref b, .int (nI 16)] (fun r w => ∃ v, r = none ∧ w = [jB b v 0, jA cB v 16 (fun _ => 0)]) := by
  intro l D
  refine yMt.ofV (by decide +kernel) (Nat.le_of_ble_eq_true rfl) fun G hG hR hN hC hE => ?_
  refine y_aload_n 0 hG dJ5_init_d00df_0 rfl rfl ?_
  refine y_objInit hG hR kv461 kw20 kw21 (by show 1 ≤ rm_J5_init_d00df.frames; decide) (by show 0 + 12 ≤ rm_J5_init_d00df.locals; decide) dJ5_init_d00df_1 ?_
  refine y_compact hG kv462 dJ5_init_d00df_4 ?_
  refine y_if_eq (tgt := 25) hG dJ5_init_d00df_7 (by decide) (fun q9 => absurd q9 (by decide)) (fun _ => ?_)
  refine y_aload_n 0 hG dJ5_init_d00df_10 rfl rfl ?_
  refine y_iload_n 1 hG dJ5_init_d00df_11 rfl rfl ?_
  refine y_newB (N := 16) hG hC hR kw68 (by decide) (by show 0 + 1 ≤ 1; decide) (by show 0 + _ ≤ 16; omega) dJ5_init_d00df_12 (fun x => ?_)
  show yW G [jO 1 b, jA cB x 16 (fun _ => 0)] 1 (0 + 16) [(0, .ref b), (1, .int (nI 16))] [.ref x, .ref b] 14
  refine y_put (ws' := [jB b x 0, jA cB x 16 (fun _ => 0)]) 0 0 hG ycl1 rfl (by decide) (by show 0 < 4; decide) kv470 rfl rfl rfl rfl dJ5_init_d00df_14 ?_
  refine y_aload_n 0 hG dJ5_init_d00df_17 rfl rfl ?_
  refine y_iconst 0 hG dJ5_init_d00df_18 (by decide) ?_
  refine y_put (ws' := [jB b x 0, jA cB x 16 (fun _ => 0)]) 0 1 hG ycl1 rfl (by decide) (by show 1 < 4; decide) kv471 rfl rfl rfl rfl dJ5_init_d00df_19 ?_
  refine y_goto (tgt := 38) hG dJ5_init_d00df_22 (by decide) ?_
  refine y_widen (k := rm_J5_init_d00df.cells) (n := rm_J5_init_d00df.slots) (by decide) (by first | decide | (show (0 + 16) ≤ 16; omega)) hR (by decide) (by decide) ?_
  exact hE _ _ _ dJ5_init_d00df_38 ⟨x, rfl, rfl⟩
theorem hd_J5_init_d00df : zHead yJ5_init_d00df cJ5_init_d00df 2 1 none := ⟨kv460, kv6, by decide +kernel, by decide +kernel, by decide +kernel⟩
abbrev rm_J4_init_da8c8 : Room := { frames := 2, cells := 1, slots := 16, locals := 33 }
set_option maxRecDepth 100000 in
theorem c_J4_init_da8c8 {cB : ClassId} {os : List oSt} {b : Nat}  : ∀ (l : Launch) (D : va_G), yMt l yJ4_init_da8c8 cJ4_init_da8c8 1 none rm_J4_init_da8c8 D cB [jO 1 b] os [.ref b] (fun r w => ∃ v, r = none ∧ w = [jB b v 0, jA cB v 16 (fun _ => 0)]) := by
  intro l D
  refine yMt.ofV (by decide +kernel) (Nat.le_of_ble_eq_true rfl) fun G hG hR hN hC hE => ?_
  refine y_aload_n 0 hG dJ4_init_da8c8_0 rfl rfl ?_
  refine y_bipush (nI 16) hG dJ4_init_da8c8_1 (by decide) ?_
  refine y_callI [.int (nI 16)] hG hC hR (fun l9 D9 => c_J5_init_d00df l9 D9) hd_J5_init_d00df rfl kv458 kv459 (by show rm_J5_init_d00df.frames + 1 ≤ rm_J4_init_da8c8.frames; decide) (by show 8 + (2 + 11) + rm_J5_init_d00df.locals ≤ rm_J4_init_da8c8.locals; decide) (by show 0 + rm_J5_init_d00df.cells ≤ rm_J4_init_da8c8.cells; decide) (by show 0 + rm_J5_init_d00df.slots ≤ rm_J4_init_da8c8.slots; decide) rfl rfl (by show 0 ≤ 8; decide) dJ4_init_da8c8_3 (fun r9 w9 hp9 => ?_)
  obtain ⟨x, rfl, rfl⟩ := hp9
  show yW G [jB b x 0, jA cB x 16 (fun _ => 0)] 1 16 [(0, .ref b)] [] 6
  exact hE _ _ _ dJ4_init_da8c8_6 ⟨x, rfl, rfl⟩
abbrev rm_J5_getValue_6d5f1 : Room := { frames := 0, cells := 0, slots := 0, locals := 0 }
set_option maxRecDepth 100000 in
theorem c_J5_getValue_6d5f1 {cB : ClassId} {os : List oSt} {e : Nat × va_E} {b v n N : Nat} {g : Nat → Int32}  : ∀ (l : Launch) (D : va_G), yMt l yJ5_getValue_6d5f1 cJ5_getValue_6d5f1 1 (some (.array .byte)) rm_J5_getValue_6d5f1 D cB [jB b v n, jA cB v N g, e] os [.ref b] (fun r w => r = some (.ref v) ∧ w = [jB b v n, jA cB v N g, e]) := by
  intro l D
  refine yMt.ofA (Or.inr ⟨_, rfl⟩) (by decide +kernel) (Nat.le_of_ble_eq_true rfl) fun G hG hR hN hC hE => ?_
  refine y_aload_n 0 hG dJ5_getValue_6d5f1_0 rfl rfl ?_
  refine y_get (v := .ref v) 0 0 hG ycl1 rfl (by decide) rfl kv470 dJ5_getValue_6d5f1_1 ?_
  exact hE _ _ _ _ dJ5_getValue_6d5f1_4 ⟨rfl, rfl⟩
abbrev rm_J5_length_8abf5 : Room := { frames := 0, cells := 0, slots := 0, locals := 0 }
set_option maxRecDepth 100000 in
theorem c_J5_length_8abf5 {cB : ClassId} {os : List oSt} {e : Nat × va_E} {b v n N : Nat} {g : Nat → Int32}  : ∀ (l : Launch) (D : va_G), yMt l yJ5_length_8abf5 cJ5_length_8abf5 1 (some .int) rm_J5_length_8abf5 D cB [jB b v n, jA cB v N g, e] os [.ref b] (fun r w => r = some (.int (nI n)) ∧ w = [jB b v n, jA cB v N g, e]) := by
  intro l D
  refine yMt.ofI (by decide +kernel) (Nat.le_of_ble_eq_true rfl) fun G hG hR hN hC hE => ?_
  refine y_aload_n 0 hG dJ5_length_8abf5_0 rfl rfl ?_
  refine y_get (v := .int (nI n)) 0 3 hG ycl1 rfl (by decide) rfl kv473 dJ5_length_8abf5_1 ?_
  exact hE _ _ _ _ dJ5_length_8abf5_4 ⟨rfl, rfl⟩
theorem hd_J5_length_8abf5 : zHead yJ5_length_8abf5 cJ5_length_8abf5 1 0 (some .int) := ⟨kv616, kv6, by decide +kernel, by decide +kernel, by decide +kernel⟩
abbrev rm_J4_length_8abf5 : Room := { frames := 1, cells := 0, slots := 0, locals := 20 }
set_option maxRecDepth 100000 in
theorem c_J4_length_8abf5 {cB : ClassId} {os : List oSt} {e : Nat × va_E} {b v n N : Nat} {g : Nat → Int32}  : ∀ (l : Launch) (D : va_G), yMt l yJ4_length_8abf5 cJ4_length_8abf5 1 (some .int) rm_J4_length_8abf5 D cB [jB b v n, jA cB v N g, e] os [.ref b] (fun r w => r = some (.int (nI n)) ∧ w = [jB b v n, jA cB v N g, e]) := by
  intro l D
  refine yMt.ofI (by decide +kernel) (Nat.le_of_ble_eq_true rfl) fun G hG hR hN hC hE => ?_
  refine y_aload_n 0 hG dJ4_length_8abf5_0 rfl rfl ?_
  refine y_callSU (q0 := 0) [] hG hC hR (fun l9 D9 => c_J5_length_8abf5 l9 D9) hd_J5_length_8abf5 (by decide +kernel) kv615 ku611 ku482 kv610 rfl rfl (by show rm_J5_length_8abf5.frames + 1 ≤ rm_J4_length_8abf5.frames; decide) (by show 8 + (1 + 11) + rm_J5_length_8abf5.locals ≤ rm_J4_length_8abf5.locals; decide) (by show 0 + rm_J5_length_8abf5.cells ≤ rm_J4_length_8abf5.cells; decide) (by show 0 + rm_J5_length_8abf5.slots ≤ rm_J4_length_8abf5.slots; decide) rfl rfl (by show 0 ≤ 8; decide) dJ4_length_8abf5_1 (fun r9 w9 hp9 => ?_)
  obtain ⟨hr9, hw9⟩ := hp9
  rw [hr9, hw9]
  clear hr9 hw9
  show yW G [jB b v n, jA cB v N g, e] 0 0 [(0, .ref b)] [.int (nI n)] 4
  exact hE _ _ _ _ dJ4_length_8abf5_4 ⟨rfl, rfl⟩
abbrev rm_J5_isLatin1_aae02 : Room := { frames := 0, cells := 0, slots := 0, locals := 0 }
set_option maxRecDepth 100000 in
theorem c_J5_isLatin1_aae02 {cB : ClassId} {os : List oSt} {e : Nat × va_E} {b v n N : Nat} {g : Nat → Int32}  : ∀ (l : Launch) (D : va_G), yMt l yJ5_isLatin1_aae02 cJ5_isLatin1_aae02 1 (some .boolean) rm_J5_isLatin1_aae02 D cB [jB b v n, jA cB v N g, e] os [.ref b] (fun r w => r = some (.int 1) ∧ w = [jB b v n, jA cB v N g, e]) := by
  intro l D
  refine yMt.ofN (by decide +kernel) (Nat.le_of_ble_eq_true rfl) fun G hG hR hN hC hE => ?_
  refine y_compact hG kv462 dJ5_isLatin1_aae02_0 ?_
  refine y_if_eq (tgt := 17) hG dJ5_isLatin1_aae02_3 (by decide) (fun q9 => absurd q9 (by decide)) (fun _ => ?_)
  refine y_aload_n 0 hG dJ5_isLatin1_aae02_6 rfl rfl ?_
  refine y_get (v := .int 0) 0 1 hG ycl1 rfl (by decide) rfl kv471 dJ5_isLatin1_aae02_7 ?_
  refine y_if_ne (tgt := 17) hG dJ5_isLatin1_aae02_10 (by decide) (fun q9 => absurd q9 (by decide)) (fun _ => ?_)
  refine y_iconst 1 hG dJ5_isLatin1_aae02_13 (by decide) ?_
  refine y_goto (tgt := 18) hG dJ5_isLatin1_aae02_14 (by decide) ?_
  exact hE _ _ _ _ dJ5_isLatin1_aae02_18 rfl ⟨rfl, rfl⟩
abbrev rm_J7_checkLength_df160 : Room := { frames := 0, cells := 0, slots := 0, locals := 0 }
set_option maxRecDepth 100000 in
theorem c_J7_checkLength_df160 {cB : ClassId} {os : List oSt} {ws : va_W} {n : Nat} (hn : n < 2 ^ 31) : ∀ (l : Launch) (D : va_G), yMt l yJ7_checkLength_df160 cJ7_checkLength_df160 2 none rm_J7_checkLength_df160 D cB ws os [.int 0, .int (nI n)] (fun r w => r = none ∧ w = ws) := by
  intro l D
  refine yMt.ofV (by decide +kernel) (Nat.le_of_ble_eq_true rfl) fun G hG hR hN hC hE => ?_
  refine y_iload_n 1 hG dJ7_checkLength_df160_0 rfl rfl ?_
  refine y_iload_n 0 hG dJ7_checkLength_df160_1 rfl rfl ?_
  refine y_icmp_ge (tgt := 37) hG dJ7_checkLength_df160_2 (by decide) (fun _ => ?_) (fun q9 => absurd (show (0 : Int32) ≤ nI n from Int32.not_lt.mp (nI_pos hn)) q9)
  exact hE _ _ _ dJ7_checkLength_df160_37 ⟨rfl, rfl⟩
theorem hd_J7_checkLength_df160 : zHead yJ7_checkLength_df160 cJ7_checkLength_df160 2 2 none := ⟨kv626, kv11, by decide +kernel, by decide +kernel, by decide +kernel⟩
abbrev rm_J7_copyOfRangeByte_39247 : Room := { frames := 1, cells := 1, slots := 220, locals := 40 }
set_option maxRecDepth 100000 in
theorem c_J7_copyOfRangeByte_39247 {cB : ClassId} {os : List oSt} {e : Nat × va_E} {b v n N : Nat} {g : Nat → Int32} (hnN : n ≤ N) (hN2 : N ≤ 220) (hg : jF g) : ∀ (l : Launch) (D : va_G), yMt l yJ7_copyOfRangeByte_39247 cJ7_copyOfRangeByte_39247 5 (some (.array .byte)) rm_J7_copyOfRangeByte_39247 D cB [jB b v n, jA cB v N g, e] os [.ref v, .int 0, .int (nI n)] (fun r w => ∃ x g', r = some (.ref x) ∧ w = [jB b v n, jA cB v N g, e, jA cB x n g'] ∧ ∀ j, j < n → g' j = g j) := by
  intro l D
  refine yMt.ofA (Or.inr ⟨_, rfl⟩) (by decide +kernel) (Nat.le_of_ble_eq_true rfl) fun G hG hR hN hC hE => ?_
  refine y_iload_n 1 hG dJ7_copyOfRangeByte_39247_0 rfl rfl ?_
  refine y_iload_n 2 hG dJ7_copyOfRangeByte_39247_1 rfl rfl ?_
  refine y_callS [.int 0, .int (nI n)] hG hC hR (fun l9 D9 => c_J7_checkLength_df160 (by omega) l9 D9) hd_J7_checkLength_df160 kv624 kv625 (by show rm_J7_checkLength_df160.frames + 1 ≤ rm_J7_copyOfRangeByte_39247.frames; decide) (by show 8 + (2 + 11) + rm_J7_checkLength_df160.locals ≤ rm_J7_copyOfRangeByte_39247.locals; decide) (by show 0 + rm_J7_checkLength_df160.cells ≤ rm_J7_copyOfRangeByte_39247.cells; decide) (by show 0 + rm_J7_checkLength_df160.slots ≤ rm_J7_copyOfRangeByte_39247.slots; decide) rfl rfl (by show 0 ≤ 8; decide) dJ7_copyOfRangeByte_39247_2 (fun r9 w9 hp9 => ?_)
  obtain ⟨hr9, hw9⟩ := hp9
  rw [hr9, hw9]
  clear hr9 hw9
  show yW G [jB b v n, jA cB v N g, e] 0 0 [(0, .ref v), (1, .int 0), (2, .int (nI n))] [] 5
  refine y_iload_n 2 hG dJ7_copyOfRangeByte_39247_5 rfl rfl ?_
  refine y_iload_n 1 hG dJ7_copyOfRangeByte_39247_6 rfl rfl ?_
  refine y_isub (z := nI n) hG dJ7_copyOfRangeByte_39247_7 (jsub0 _) ?_
  refine y_istore_n (lv' := [(3, .int (nI n)), (0, .ref v), (1, .int 0), (2, .int (nI n))]) hG dJ7_copyOfRangeByte_39247_8 rfl (by decide) rfl ?_
  refine y_iload_n 0 hG dJ7_copyOfRangeByte_39247_9 rfl rfl ?_
  refine y_newB (N := n) hG hC hR kw68 (by omega) (by show 0 + 1 ≤ 1; decide) (by show 0 + _ ≤ 220; omega) dJ7_copyOfRangeByte_39247_10 (fun x => ?_)
  show yW G [jB b v n, jA cB v N g, e, jA cB x n (fun _ => 0)] 1 (0 + n) [(3, .int (nI n)), (0, .ref v), (1, .int 0), (2, .int (nI n))] [.ref x] 12
  refine y_astore (lv' := [(4, .ref x), (3, .int (nI n)), (0, .ref v), (1, .int 0), (2, .int (nI n))]) hG dJ7_copyOfRangeByte_39247_12 (by decide) rfl ?_
  refine y_aload_n 2 hG dJ7_copyOfRangeByte_39247_14 rfl rfl ?_
  refine y_iload_n 3 hG dJ7_copyOfRangeByte_39247_15 rfl rfl ?_
  refine y_aload 0 hG dJ7_copyOfRangeByte_39247_16 rfl ?_
  refine y_iconst 0 hG dJ7_copyOfRangeByte_39247_18 (by decide) ?_
  refine y_aload_n 2 hG dJ7_copyOfRangeByte_39247_19 rfl rfl ?_
  refine y_alen 1 hG hC rfl dJ7_copyOfRangeByte_39247_20 ?_
  refine y_iload_n 3 hG dJ7_copyOfRangeByte_39247_21 rfl rfl ?_
  refine y_isub (z := nI N) hG dJ7_copyOfRangeByte_39247_22 (jsub0 _) ?_
  refine y_iload_n 1 hG dJ7_copyOfRangeByte_39247_23 rfl rfl ?_
  refine y_min hG hR ⟨kv521, kw226, kw12, kw227⟩ (by show 1 ≤ rm_J7_copyOfRangeByte_39247.frames; decide) (by show 4 + 13 ≤ rm_J7_copyOfRangeByte_39247.locals; decide) (by omega) (by omega) dJ7_copyOfRangeByte_39247_24 ?_
  refine y_copy (ws' := [jB b v n, jA cB v N g, e, jA cB x n (va_cpy g (fun _ => 0) 0 0 (min N n))]) (sp := 0) (dp := 0) 1 3 hG hC hR ⟨kv522, kv524, kv523, kv12⟩ rfl rfl (by omega) (by omega) ⟨by omega, by omega⟩ (fun i _ => hg _) (by show 1 ≤ rm_J7_copyOfRangeByte_39247.frames; decide) (by show 0 + 40 ≤ rm_J7_copyOfRangeByte_39247.locals; decide) rfl dJ7_copyOfRangeByte_39247_27 ?_
  refine y_aload 0 hG dJ7_copyOfRangeByte_39247_30 rfl ?_
  refine y_widen (k := rm_J7_copyOfRangeByte_39247.cells) (n := rm_J7_copyOfRangeByte_39247.slots) (by decide) (by first | decide | (show (0 + n) ≤ 220; omega)) hR (by decide) (by decide) ?_
  exact hE _ _ _ _ dJ7_copyOfRangeByte_39247_32 ⟨x, _, rfl, rfl, fun j hj => by
    unfold va_cpy
    rw [if_pos (by omega)]
    congr 1
    omega⟩
theorem hd_J7_copyOfRangeByte_39247 : zHead yJ7_copyOfRangeByte_39247 cJ7_copyOfRangeByte_39247 5 3 (some (.array .byte)) := ⟨kv623, kv11, by decide +kernel, by decide +kernel, by decide +kernel⟩
abbrev rm_J7_copyOfRange_39247 : Room := { frames := 2, cells := 1, slots := 220, locals := 64 }
set_option maxRecDepth 100000 in
theorem c_J7_copyOfRange_39247 {cB : ClassId} {os : List oSt} {e : Nat × va_E} {b v n N : Nat} {g : Nat → Int32} (hnN : n < N) (hN2 : N ≤ 220) (hg : jF g) : ∀ (l : Launch) (D : va_G), yMt l yJ7_copyOfRange_39247 cJ7_copyOfRange_39247 3 (some (.array .byte)) rm_J7_copyOfRange_39247 D cB [jB b v n, jA cB v N g, e] os [.ref v, .int 0, .int (nI n)] (fun r w => ∃ x g', r = some (.ref x) ∧ w = [jB b v n, jA cB v N g, e, jA cB x n g'] ∧ ∀ j, j < n → g' j = g j) := by
  intro l D
  refine yMt.ofA (Or.inr ⟨_, rfl⟩) (by decide +kernel) (Nat.le_of_ble_eq_true rfl) fun G hG hR hN hC hE => ?_
  refine y_iload_n 1 hG dJ7_copyOfRange_39247_0 rfl rfl ?_
  refine y_if_ne (tgt := 10) hG dJ7_copyOfRange_39247_1 (by decide) (fun q9 => absurd q9 (fun h9 => h9 rfl)) (fun _ => ?_)
  refine y_iload_n 2 hG dJ7_copyOfRange_39247_4 rfl rfl ?_
  refine y_aload_n 0 hG dJ7_copyOfRange_39247_5 rfl rfl ?_
  refine y_alen 1 hG hC rfl dJ7_copyOfRange_39247_6 ?_
  refine y_icmp_eq (tgt := 17) hG dJ7_copyOfRange_39247_7 (by decide) (fun q9 => absurd q9 (jneq (by omega) (by omega) (by omega))) (fun _ => ?_)
  refine y_aload_n 0 hG dJ7_copyOfRange_39247_10 rfl rfl ?_
  refine y_iload_n 1 hG dJ7_copyOfRange_39247_11 rfl rfl ?_
  refine y_iload_n 2 hG dJ7_copyOfRange_39247_12 rfl rfl ?_
  refine y_callS [.ref v, .int 0, .int (nI n)] hG hC hR (fun l9 D9 => c_J7_copyOfRangeByte_39247 (by omega) hN2 hg l9 D9) hd_J7_copyOfRangeByte_39247 kv621 kv622 (by show rm_J7_copyOfRangeByte_39247.frames + 1 ≤ rm_J7_copyOfRange_39247.frames; decide) (by show 8 + (5 + 11) + rm_J7_copyOfRangeByte_39247.locals ≤ rm_J7_copyOfRange_39247.locals; decide) (by show 0 + rm_J7_copyOfRangeByte_39247.cells ≤ rm_J7_copyOfRange_39247.cells; decide) (by show 0 + rm_J7_copyOfRangeByte_39247.slots ≤ rm_J7_copyOfRange_39247.slots; decide) rfl rfl (by show 0 ≤ 8; decide) dJ7_copyOfRange_39247_13 (fun r9 w9 hp9 => ?_)
  obtain ⟨x, g1, rfl, rfl, q1⟩ := hp9
  show yW G [jB b v n, jA cB v N g, e, jA cB x n g1] 1 220 [(0, .ref v), (1, .int 0), (2, .int (nI n))] [.ref x] 16
  exact hE _ _ _ _ dJ7_copyOfRange_39247_16 ⟨x, g1, rfl, rfl, q1⟩
set_option maxRecDepth 100000 in
theorem c_J7_copyOfRange_39247c {cB : ClassId} {os : List oSt} {e : Nat × va_E} {b v n : Nat} {g : Nat → Int32} (hN2 : n ≤ 220) (hg : jF g) : ∀ (l : Launch) (D : va_G), yMt l yJ7_copyOfRange_39247 cJ7_copyOfRange_39247 3 (some (.array .byte)) rm_J7_copyOfRange_39247 D cB [jB b v n, jA cB v n g, e] os [.ref v, .int 0, .int (nI n)] (fun r w => ∃ x g', r = some (.ref x) ∧ w = [jB b v n, jA cB v n g, e, jA cB x n g'] ∧ ∀ j, j < n → g' j = g j) := by
  intro l D
  refine yMt.ofA (Or.inr ⟨_, rfl⟩) (by decide +kernel) (Nat.le_of_ble_eq_true rfl) fun G hG hR hN hC hE => ?_
  refine y_iload_n 1 hG dJ7_copyOfRange_39247_0 rfl rfl ?_
  refine y_if_ne (tgt := 10) hG dJ7_copyOfRange_39247_1 (by decide) (fun q9 => absurd q9 (fun h9 => h9 rfl)) (fun _ => ?_)
  refine y_iload_n 2 hG dJ7_copyOfRange_39247_4 rfl rfl ?_
  refine y_aload_n 0 hG dJ7_copyOfRange_39247_5 rfl rfl ?_
  refine y_alen 1 hG hC rfl dJ7_copyOfRange_39247_6 ?_
  refine y_icmp_eq (tgt := 17) hG dJ7_copyOfRange_39247_7 (by decide) (fun _ => ?_) (fun q9 => absurd rfl q9)
  refine y_aload_n 0 hG dJ7_copyOfRange_39247_17 rfl rfl ?_
  refine y_clone 1 hG hC hR kv514 ku515 kv516 kv517 kv518 ku519 rfl hg (by show 1 ≤ rm_J7_copyOfRange_39247.frames; decide) (by show 0 + 14 ≤ rm_J7_copyOfRange_39247.locals; decide) (by show 0 + 1 ≤ 1; decide) (by show 0 + n ≤ 220; omega) dJ7_copyOfRange_39247_18 (fun x => ?_)
  show yW G [jB b v n, jA cB v n g, e, jA cB x n g] 1 (0 + n) [(0, .ref v), (1, .int 0), (2, .int (nI n))] [.ref x] 21
  refine y_castB 3 hG hC kv520 rfl dJ7_copyOfRange_39247_21 ?_
  refine y_widen (k := rm_J7_copyOfRange_39247.cells) (n := rm_J7_copyOfRange_39247.slots) (by decide) (by first | decide | (show (0 + n) ≤ 220; omega)) hR (by decide) (by decide) ?_
  exact hE _ _ _ _ dJ7_copyOfRange_39247_24 ⟨x, g, rfl, rfl, fun _ _ => rfl⟩
theorem c_cor {cB : ClassId} {os : List oSt} {e : Nat × va_E} {b v n N : Nat} {g : Nat → Int32} (hnN : n ≤ N) (hN2 : N ≤ 220) (hg : jF g) : ∀ (l : Launch) (D : va_G), yMt l yJ7_copyOfRange_39247 cJ7_copyOfRange_39247 3 (some (.array .byte)) rm_J7_copyOfRange_39247 D cB [jB b v n, jA cB v N g, e] os [.ref v, .int 0, .int (nI n)] (fun r w => ∃ x g', r = some (.ref x) ∧ w = [jB b v n, jA cB v N g, e, jA cB x n g'] ∧ ∀ j, j < n → g' j = g j) := by
  intro l D
  rcases Nat.lt_or_eq_of_le hnN with h | h
  · exact c_J7_copyOfRange_39247 h hN2 hg l D
  · subst h
    exact c_J7_copyOfRange_39247c hN2 hg l D
theorem hd_J5_getValue_6d5f1 : zHead yJ5_getValue_6d5f1 cJ5_getValue_6d5f1 1 0 (some (.array .byte)) := ⟨kv608, kv6, by decide +kernel, by decide +kernel, by decide +kernel⟩
theorem hd_J4_length_8abf5 : zHead yJ4_length_8abf5 cJ4_length_8abf5 1 0 (some .int) := ⟨kv614, kv7, by decide +kernel, by decide +kernel, by decide +kernel⟩
theorem hd_J5_isLatin1_aae02 : zHead yJ5_isLatin1_aae02 cJ5_isLatin1_aae02 1 0 (some .boolean) := ⟨kv529, kv6, by decide +kernel, by decide +kernel, by decide +kernel⟩
theorem hd_J7_copyOfRange_39247 : zHead yJ7_copyOfRange_39247 cJ7_copyOfRange_39247 3 3 (some (.array .byte)) := ⟨kv620, kv11, by decide +kernel, by decide +kernel, by decide +kernel⟩
abbrev rm_J0_init_db425 : Room := { frames := 3, cells := 1, slots := 220, locals := 86 }
set_option maxRecDepth 100000 in
theorem c_J0_init_db425 {cB : ClassId} {os : List oSt} {s : Nat} {b v n N : Nat} {g : Nat → Int32} (hnN : n ≤ N) (hN2 : N ≤ 220) (hg : jF g) : ∀ (l : Launch) (D : va_G), yMt l yJ0_init_db425 cJ0_init_db425 5 none rm_J0_init_db425 D cB [jB b v n, jA cB v N g, jO 0 s] os [.ref s, .ref b, .null] (fun r w => ∃ x g', r = none ∧ w = [jB b v n, jA cB v N g, jS s x, jA cB x n g'] ∧ ∀ j, j < n → g' j = g j) := by
  intro l D
  refine yMt.ofV (by decide +kernel) (Nat.le_of_ble_eq_true rfl) fun G hG hR hN hC hE => ?_
  refine y_aload_n 0 hG dJ0_init_db425_0 rfl rfl ?_
  refine y_objInit hG hR kv603 kw20 kw21 (by show 1 ≤ rm_J0_init_db425.frames; decide) (by show 0 + 12 ≤ rm_J0_init_db425.locals; decide) dJ0_init_db425_1 ?_
  refine y_aload_n 1 hG dJ0_init_db425_4 rfl rfl ?_
  refine y_callU (q0 := 0) [] hG hC hR (fun l9 D9 => c_J5_getValue_6d5f1 l9 D9) hd_J5_getValue_6d5f1 kv604 (by decide +kernel) ku606 (by decide +kernel) kv605 kv608 (ySel.w kv607) kv605 rfl rfl (by show rm_J5_getValue_6d5f1.frames + 1 ≤ rm_J0_init_db425.frames; decide) (by show 8 + (1 + 11) + rm_J5_getValue_6d5f1.locals ≤ rm_J0_init_db425.locals; decide) (by show 0 + rm_J5_getValue_6d5f1.cells ≤ rm_J0_init_db425.cells; decide) (by show 0 + rm_J5_getValue_6d5f1.slots ≤ rm_J0_init_db425.slots; decide) rfl rfl (by show 0 ≤ 8; decide) dJ0_init_db425_5 (fun r9 w9 hp9 => ?_)
  obtain ⟨hr9, hw9⟩ := hp9
  rw [hr9, hw9]
  clear hr9 hw9
  show yW G [jB b v n, jA cB v N g, jO 0 s] 0 0 [(0, .ref s), (1, .ref b), (2, .null)] [.ref v] 8
  refine y_astore_n (lv' := [(3, .ref v), (0, .ref s), (1, .ref b), (2, .null)]) hG dJ0_init_db425_8 rfl (by decide) rfl ?_
  refine y_aload_n 2 hG dJ0_init_db425_9 rfl rfl ?_
  refine y_callU (q0 := 0) [] hG hC hR (fun l9 D9 => c_J4_length_8abf5 l9 D9) hd_J4_length_8abf5 kv609 (by decide +kernel) ku611 (by decide +kernel) kv610 kv616 (ySel.w kv612) kv613 rfl rfl (by show rm_J4_length_8abf5.frames + 1 ≤ rm_J0_init_db425.frames; decide) (by show 8 + (1 + 11) + rm_J4_length_8abf5.locals ≤ rm_J0_init_db425.locals; decide) (by show 0 + rm_J4_length_8abf5.cells ≤ rm_J0_init_db425.cells; decide) (by show 0 + rm_J4_length_8abf5.slots ≤ rm_J0_init_db425.slots; decide) rfl rfl (by show 0 ≤ 8; decide) dJ0_init_db425_10 (fun r9 w9 hp9 => ?_)
  obtain ⟨hr9, hw9⟩ := hp9
  rw [hr9, hw9]
  clear hr9 hw9
  show yW G [jB b v n, jA cB v N g, jO 0 s] 0 0 [(3, .ref v), (0, .ref s), (1, .ref b), (2, .null)] [.int (nI n)] 13
  refine y_istore (lv' := [(4, .int (nI n)), (3, .ref v), (0, .ref s), (1, .ref b), (2, .null)]) hG dJ0_init_db425_13 (by decide) rfl ?_
  refine y_aload_n 3 hG dJ0_init_db425_15 rfl rfl ?_
  refine y_callU (q0 := 0) [] hG hC hR (fun l9 D9 => c_J5_isLatin1_aae02 l9 D9) hd_J5_isLatin1_aae02 kv617 (by decide +kernel) ku527 (by decide +kernel) kv526 kv529 (ySel.w kv528) kv526 rfl rfl (by show rm_J5_isLatin1_aae02.frames + 1 ≤ rm_J0_init_db425.frames; decide) (by show 8 + (1 + 11) + rm_J5_isLatin1_aae02.locals ≤ rm_J0_init_db425.locals; decide) (by show 0 + rm_J5_isLatin1_aae02.cells ≤ rm_J0_init_db425.cells; decide) (by show 0 + rm_J5_isLatin1_aae02.slots ≤ rm_J0_init_db425.slots; decide) rfl rfl (by show 0 ≤ 8; decide) dJ0_init_db425_16 (fun r9 w9 hp9 => ?_)
  obtain ⟨hr9, hw9⟩ := hp9
  rw [hr9, hw9]
  clear hr9 hw9
  show yW G [jB b v n, jA cB v N g, jO 0 s] 0 0 [(4, .int (nI n)), (3, .ref v), (0, .ref s), (1, .ref b), (2, .null)] [.int 1] 19
  refine y_if_eq (tgt := 41) hG dJ0_init_db425_19 (by decide) (fun q9 => absurd q9 (by decide)) (fun _ => ?_)
  refine y_aload_n 2 hG dJ0_init_db425_22 rfl rfl ?_
  refine y_iconst 0 hG dJ0_init_db425_23 (by decide) ?_
  refine y_putF (ws' := [jB b v n, jA cB v N g, jO 0 s]) 2 1 hG hN ycl0 rfl (by decide) (by show 1 < 4; decide) kv641 rfl rfl rfl rfl rfl dJ0_init_db425_24 ?_
  refine y_aload_n 2 hG dJ0_init_db425_27 rfl rfl ?_
  refine y_aload_n 1 hG dJ0_init_db425_28 rfl rfl ?_
  refine y_iconst 0 hG dJ0_init_db425_29 (by decide) ?_
  refine y_iload 0 hG dJ0_init_db425_30 rfl ?_
  refine y_callS [.ref v, .int 0, .int (nI n)] hG hC hR (fun l9 D9 => c_cor hnN hN2 hg l9 D9) hd_J7_copyOfRange_39247 kv618 kv619 (by show rm_J7_copyOfRange_39247.frames + 1 ≤ rm_J0_init_db425.frames; decide) (by show 8 + (3 + 11) + rm_J7_copyOfRange_39247.locals ≤ rm_J0_init_db425.locals; decide) (by show 0 + rm_J7_copyOfRange_39247.cells ≤ rm_J0_init_db425.cells; decide) (by show 0 + rm_J7_copyOfRange_39247.slots ≤ rm_J0_init_db425.slots; decide) rfl rfl (by show 1 ≤ 8; decide) dJ0_init_db425_32 (fun r9 w9 hp9 => ?_)
  obtain ⟨x, g1, rfl, rfl, q1⟩ := hp9
  show yW G [jB b v n, jA cB v N g, jO 0 s, jA cB x n g1] 1 220 [(4, .int (nI n)), (3, .ref v), (0, .ref s), (1, .ref b), (2, .null)] [.ref x, .ref s] 35
  refine y_putF (ws' := [jB b v n, jA cB v N g, jS s x, jA cB x n g1]) 2 0 hG hN ycl0 rfl (by decide) (by show 0 < 4; decide) kv640 rfl rfl rfl rfl rfl dJ0_init_db425_35 ?_
  refine y_goto (tgt := 97) hG dJ0_init_db425_38 (by decide) ?_
  exact hE _ _ _ dJ0_init_db425_97 ⟨x, g1, rfl, rfl, q1⟩
theorem hd_J0_init_db425 : zHead yJ0_init_db425 cJ0_init_db425 5 2 none := ⟨kv602, kv5, by decide +kernel, by decide +kernel, by decide +kernel⟩
abbrev rm_J0_init_81219 : Room := { frames := 4, cells := 1, slots := 220, locals := 110 }
set_option maxRecDepth 100000 in
theorem c_J0_init_81219 {cB : ClassId} {os : List oSt} {s : Nat} {b v n N : Nat} {g : Nat → Int32} (hnN : n ≤ N) (hN2 : N ≤ 220) (hg : jF g) : ∀ (l : Launch) (D : va_G), yMt l yJ0_init_81219 cJ0_init_81219 2 none rm_J0_init_81219 D cB [jB b v n, jA cB v N g, jO 0 s] os [.ref s, .ref b] (fun r w => ∃ x g', r = none ∧ w = [jB b v n, jA cB v N g, jS s x, jA cB x n g'] ∧ ∀ j, j < n → g' j = g j) := by
  intro l D
  refine yMt.ofV (by decide +kernel) (Nat.le_of_ble_eq_true rfl) fun G hG hR hN hC hE => ?_
  refine y_aload_n 0 hG dJ0_init_81219_0 rfl rfl ?_
  refine y_aload_n 1 hG dJ0_init_81219_1 rfl rfl ?_
  refine y_null hG dJ0_init_81219_2 ?_
  refine y_callI [.ref b, .null] hG hC hR (fun l9 D9 => c_J0_init_db425 hnN hN2 hg l9 D9) hd_J0_init_db425 rfl kv600 kv601 (by show rm_J0_init_db425.frames + 1 ≤ rm_J0_init_81219.frames; decide) (by show 8 + (5 + 11) + rm_J0_init_db425.locals ≤ rm_J0_init_81219.locals; decide) (by show 0 + rm_J0_init_db425.cells ≤ rm_J0_init_81219.cells; decide) (by show 0 + rm_J0_init_db425.slots ≤ rm_J0_init_81219.slots; decide) rfl rfl (by show 0 ≤ 8; decide) dJ0_init_81219_3 (fun r9 w9 hp9 => ?_)
  obtain ⟨x, g1, rfl, rfl, q1⟩ := hp9
  show yW G [jB b v n, jA cB v N g, jS s x, jA cB x n g1] 1 220 [(0, .ref s), (1, .ref b)] [] 6
  exact hE _ _ _ dJ0_init_81219_6 ⟨x, g1, rfl, rfl, q1⟩
theorem hd_J0_init_81219 : zHead yJ0_init_81219 cJ0_init_81219 2 1 none := ⟨kv599, kv5, by decide +kernel, by decide +kernel, by decide +kernel⟩
abbrev rm_J4_toString_0e30d : Room := { frames := 5, cells := 2, slots := 224, locals := 131 }
set_option maxRecDepth 100000 in
theorem c_J4_toString_0e30d {cB : ClassId} {os : List oSt} {b v n N : Nat} {g : Nat → Int32} (hnN : n ≤ N) (hN2 : N ≤ 220) (hg : jF g) : ∀ (l : Launch) (D : va_G), yMt l yJ4_toString_0e30d cJ4_toString_0e30d 1 (some (.object "java/lang/String")) rm_J4_toString_0e30d D cB [jB b v n, jA cB v N g] os [.ref b] (fun r w => ∃ s x g', r = some (.ref s) ∧ w = [jB b v n, jA cB v N g, jS s x, jA cB x n g'] ∧ ∀ j, j < n → g' j = g j) := by
  intro l D
  refine yMt.ofA (Or.inl ⟨_, rfl⟩) (by decide +kernel) (Nat.le_of_ble_eq_true rfl) fun G hG hR hN hC hE => ?_
  refine y_new [.null, .int 0, .int 0, .int 0] hG hR ycl0 kv595 kv596 kv5 (by decide +kernel) (by show 0 + 1 ≤ 2; decide) (by show 0 + 4 ≤ 224; omega) dJ4_toString_0e30d_0 (fun s => ?_)
  show yW G [jB b v n, jA cB v N g, jO 0 s] 1 (0 + 4) [(0, .ref b)] [.ref s] 3
  refine y_dup hG dJ4_toString_0e30d_3 rfl ?_
  refine y_aload_n 0 hG dJ4_toString_0e30d_4 rfl rfl ?_
  refine y_callI [.ref b] hG hC hR (fun l9 D9 => c_J0_init_81219 hnN hN2 hg l9 D9) hd_J0_init_81219 rfl kv597 kv598 (by show rm_J0_init_81219.frames + 1 ≤ rm_J4_toString_0e30d.frames; decide) (by show 8 + (2 + 11) + rm_J0_init_81219.locals ≤ rm_J4_toString_0e30d.locals; decide) (by show 1 + rm_J0_init_81219.cells ≤ rm_J4_toString_0e30d.cells; decide) (by show (0 + 4) + rm_J0_init_81219.slots ≤ rm_J4_toString_0e30d.slots; decide) rfl rfl (by show 1 ≤ 8; decide) dJ4_toString_0e30d_5 (fun r9 w9 hp9 => ?_)
  obtain ⟨x, g1, rfl, rfl, q1⟩ := hp9
  show yW G [jB b v n, jA cB v N g, jS s x, jA cB x n g1] 2 224 [(0, .ref b)] [.ref s] 8
  exact hE _ _ _ _ dJ4_toString_0e30d_8 ⟨s, x, g1, rfl, rfl, q1⟩
theorem jand {x : Nat} (h : x < 128) : nI x &&& 255 = nI x := (show ∀ m : Fin 128, nI m.val &&& 255 = nI m.val by decide +kernel) ⟨x, h⟩
theorem j2c {x : Nat} (h : x < 128) : ((nI x).toUInt32 % 65536).toInt32 = nI x := (show ∀ m : Fin 128, ((nI m.val).toUInt32 % 65536).toInt32 = nI m.val by decide +kernel) ⟨x, h⟩
theorem jnar {x : Nat} (h : x < 128) : narrow .char (.int (nI x)) = .int (nI x) := (show ∀ m : Fin 128, narrow .char (.int (nI m.val)) = .int (nI m.val) by decide +kernel) ⟨x, h⟩
abbrev rm_J3_checkIndex_8e157 : Room := { frames := 0, cells := 0, slots := 0, locals := 0 }
set_option maxRecDepth 100000 in
theorem c_J3_checkIndex_8e157 {cB : ClassId} {os : List oSt} {ws : va_W} {i L : Nat} (hi : i < L) (hL : L < 2 ^ 31) : ∀ (l : Launch) (D : va_G), yMt l yJ3_checkIndex_8e157 cJ3_checkIndex_8e157 3 (some .int) rm_J3_checkIndex_8e157 D cB ws os [.int (nI i), .int (nI L), .null] (fun r w => r = some (.int (nI i)) ∧ w = ws) := by
  intro l D
  refine yMt.ofI (by decide +kernel) (Nat.le_of_ble_eq_true rfl) fun G hG hR hN hC hE => ?_
  refine y_iload_n 0 hG dJ3_checkIndex_8e157_0 rfl rfl ?_
  refine y_if_lt (tgt := 9) hG dJ3_checkIndex_8e157_1 (by decide) (fun q9 => absurd q9 (fun h9 => absurd ((nI_ltI (a := i) (b := 0) (by omega) (by decide)).mp h9) (Nat.not_lt_zero _))) (fun _ => ?_)
  refine y_iload_n 0 hG dJ3_checkIndex_8e157_4 rfl rfl ?_
  refine y_iload_n 1 hG dJ3_checkIndex_8e157_5 rfl rfl ?_
  refine y_icmp_lt (tgt := 16) hG dJ3_checkIndex_8e157_6 (by decide) (fun _ => ?_) (fun q9 => absurd ((nI_ltI (by omega) hL).mpr hi) q9)
  refine y_iload_n 0 hG dJ3_checkIndex_8e157_16 rfl rfl ?_
  exact hE _ _ _ _ dJ3_checkIndex_8e157_17 ⟨rfl, rfl⟩
set_option maxRecDepth 100000 in
theorem c_J3_checkIndex_8e157r {cB : ClassId} {os : List oSt} {ws : va_W} {i L u : Nat} (hi : i < L) (hL : L < 2 ^ 31) : ∀ (l : Launch) (D : va_G), yMt l yJ3_checkIndex_8e157 cJ3_checkIndex_8e157 3 (some .int) rm_J3_checkIndex_8e157 D cB ws os [.int (nI i), .int (nI L), .ref u] (fun r w => r = some (.int (nI i)) ∧ w = ws) := by
  intro l D
  refine yMt.ofI (by decide +kernel) (Nat.le_of_ble_eq_true rfl) fun G hG hR hN hC hE => ?_
  refine y_iload_n 0 hG dJ3_checkIndex_8e157_0 rfl rfl ?_
  refine y_if_lt (tgt := 9) hG dJ3_checkIndex_8e157_1 (by decide) (fun q9 => absurd q9 (fun h9 => absurd ((nI_ltI (a := i) (b := 0) (by omega) (by decide)).mp h9) (Nat.not_lt_zero _))) (fun _ => ?_)
  refine y_iload_n 0 hG dJ3_checkIndex_8e157_4 rfl rfl ?_
  refine y_iload_n 1 hG dJ3_checkIndex_8e157_5 rfl rfl ?_
  refine y_icmp_lt (tgt := 16) hG dJ3_checkIndex_8e157_6 (by decide) (fun _ => ?_) (fun q9 => absurd ((nI_ltI (by omega) hL).mpr hi) q9)
  refine y_iload_n 0 hG dJ3_checkIndex_8e157_16 rfl rfl ?_
  exact hE _ _ _ _ dJ3_checkIndex_8e157_17 ⟨rfl, rfl⟩
theorem c_cki {cB : ClassId} {os : List oSt} {ws : va_W} {i L : Nat} (hi : i < L) (hL : L < 2 ^ 31) {u : Value} (hu : u = .null ∨ ∃ x, u = .ref x) : ∀ (l : Launch) (D : va_G), yMt l yJ3_checkIndex_8e157 cJ3_checkIndex_8e157 3 (some .int) rm_J3_checkIndex_8e157 D cB ws os [.int (nI i), .int (nI L), u] (fun r w => r = some (.int (nI i)) ∧ w = ws) := by
  rcases hu with rfl | ⟨x, rfl⟩
  · exact c_J3_checkIndex_8e157 hi hL
  · exact c_J3_checkIndex_8e157r hi hL
theorem hd_J3_checkIndex_8e157 : zHead yJ3_checkIndex_8e157 cJ3_checkIndex_8e157 3 3 (some .int) := ⟨kv671, kv13, by decide +kernel, by decide +kernel, by decide +kernel⟩
abbrev rm_J0_checkIndex_df160 : Room := { frames := 1, cells := 0, slots := 0, locals := 22 }
set_option maxRecDepth 100000 in
theorem c_J0_checkIndex_df160 {cB : ClassId} {os : List oSt} {ws : va_W} {i L : Nat} (hi : i < L) (hL : L < 2 ^ 31) : ∀ (l : Launch) (D : va_G), yMt l yJ0_checkIndex_df160 cJ0_checkIndex_df160 2 none rm_J0_checkIndex_df160 D cB ws os [.int (nI i), .int (nI L)] (fun r w => r = none ∧ w = ws) := by
  intro l D
  refine yMt.ofV (by decide +kernel) (Nat.le_of_ble_eq_true rfl) fun G hG hR hN hC hE => ?_
  refine y_iload_n 0 hG dJ0_checkIndex_df160_0 rfl rfl ?_
  refine y_iload_n 1 hG dJ0_checkIndex_df160_1 rfl rfl ?_
  refine y_former hG kv542 dJ0_checkIndex_df160_2 (fun v9 hv9 => ?_)
  refine y_callS [.int (nI i), .int (nI L), v9] hG hC hR (fun l9 D9 => c_cki hi hL hv9 l9 D9) hd_J3_checkIndex_8e157 kv669 kv670 (by show rm_J3_checkIndex_8e157.frames + 1 ≤ rm_J0_checkIndex_df160.frames; decide) (by show 8 + (3 + 11) + rm_J3_checkIndex_8e157.locals ≤ rm_J0_checkIndex_df160.locals; decide) (by show 0 + rm_J3_checkIndex_8e157.cells ≤ rm_J0_checkIndex_df160.cells; decide) (by show 0 + rm_J3_checkIndex_8e157.slots ≤ rm_J0_checkIndex_df160.slots; decide) rfl rfl (by show 0 ≤ 8; decide) dJ0_checkIndex_df160_5 (fun r9 w9 hp9 => ?_)
  obtain ⟨hr9, hw9⟩ := hp9
  rw [hr9, hw9]
  clear hr9 hw9
  show yW G ws 0 0 [(0, .int (nI i)), (1, .int (nI L))] [.int (nI i)] 8
  refine y_pop hG dJ0_checkIndex_df160_8 rfl ?_
  exact hE _ _ _ dJ0_checkIndex_df160_9 ⟨rfl, rfl⟩
theorem hd_J0_checkIndex_df160 : zHead yJ0_checkIndex_df160 cJ0_checkIndex_df160 2 2 none := ⟨kv668, kv5, by decide +kernel, by decide +kernel, by decide +kernel⟩
abbrev rm_J1_charAt_3b067 : Room := { frames := 2, cells := 0, slots := 0, locals := 43 }
set_option maxRecDepth 100000 in
theorem c_J1_charAt_3b067 {cB : ClassId} {os : List oSt} {ws : va_W} {i : Nat} {a va : Nat} {bs : List Nat} (ho : (a, va, bs) ∈ os) (hi : i < bs.length) (hL : bs.length < 2 ^ 31) (hb : bs.getD i 0 < 128) : ∀ (l : Launch) (D : va_G), yMt l yJ1_charAt_3b067 cJ1_charAt_3b067 2 (some .char) rm_J1_charAt_3b067 D cB ws os [.ref va, .int (nI i)] (fun r w => r = some (.int (nI (bs.getD i 0))) ∧ w = ws) := by
  intro l D
  refine yMt.ofN (by decide +kernel) (Nat.le_of_ble_eq_true rfl) fun G hG hR hN hC hE => ?_
  refine y_iload_n 1 hG dJ1_charAt_3b067_0 rfl rfl ?_
  refine y_aload_n 0 hG dJ1_charAt_3b067_1 rfl rfl ?_
  refine y_slen hG hC ho dJ1_charAt_3b067_2 ?_
  refine y_callS [.int (nI i), .int (nI bs.length)] hG hC hR (fun l9 D9 => c_J0_checkIndex_df160 hi hL l9 D9) hd_J0_checkIndex_df160 kv666 kv667 (by show rm_J0_checkIndex_df160.frames + 1 ≤ rm_J1_charAt_3b067.frames; decide) (by show 8 + (2 + 11) + rm_J0_checkIndex_df160.locals ≤ rm_J1_charAt_3b067.locals; decide) (by show 0 + rm_J0_checkIndex_df160.cells ≤ rm_J1_charAt_3b067.cells; decide) (by show 0 + rm_J0_checkIndex_df160.slots ≤ rm_J1_charAt_3b067.slots; decide) rfl rfl (by show 0 ≤ 8; decide) dJ1_charAt_3b067_3 (fun r9 w9 hp9 => ?_)
  obtain ⟨hr9, hw9⟩ := hp9
  rw [hr9, hw9]
  clear hr9 hw9
  show yW G ws 0 0 [(0, .ref va), (1, .int (nI i))] [] 6
  refine y_aload_n 0 hG dJ1_charAt_3b067_6 rfl rfl ?_
  refine y_iload_n 1 hG dJ1_charAt_3b067_7 rfl rfl ?_
  refine y_sbyte hG hC ho hi hL dJ1_charAt_3b067_8 ?_
  refine y_sipush 255 hG dJ1_charAt_3b067_9 (by decide) ?_
  refine y_iand (z := nI (bs.getD i 0)) hG dJ1_charAt_3b067_12 (jand hb) ?_
  refine y_i2c (z := nI (bs.getD i 0)) hG dJ1_charAt_3b067_13 (j2c hb) ?_
  exact hE _ _ _ _ dJ1_charAt_3b067_14 (jnar hb) ⟨rfl, rfl⟩
theorem hd_J0_isLatin1_aae02 : zHead yJ0_isLatin1_aae02 cJ0_isLatin1_aae02 1 0 (some .boolean) := ⟨kv662, kv5, by decide +kernel, by decide +kernel, by decide +kernel⟩
theorem hd_J1_charAt_3b067 : zHead yJ1_charAt_3b067 cJ1_charAt_3b067 2 2 (some .char) := ⟨kv665, kv14, by decide +kernel, by decide +kernel, by decide +kernel⟩
abbrev rm_J0_charAt_5068e : Room := { frames := 3, cells := 0, slots := 0, locals := 64 }
set_option maxRecDepth 100000 in
theorem c_J0_charAt_5068e {cB : ClassId} {os : List oSt} {ws : va_W} {i : Nat} {a va : Nat} {bs : List Nat} (ho : (a, va, bs) ∈ os) (hi : i < bs.length) (hL : bs.length < 2 ^ 31) (hb : bs.getD i 0 < 128) : ∀ (l : Launch) (D : va_G), yMt l yJ0_charAt_5068e cJ0_charAt_5068e 2 (some .char) rm_J0_charAt_5068e D cB ws os [.ref a, .int (nI i)] (fun r w => r = some (.int (nI (bs.getD i 0))) ∧ w = ws) := by
  intro l D
  refine yMt.ofN (by decide +kernel) (Nat.le_of_ble_eq_true rfl) fun G hG hR hN hC hE => ?_
  refine y_aload_n 0 hG dJ0_charAt_5068e_0 rfl rfl ?_
  refine y_callVS [] hG hC hR ho (fun l9 D9 => c_J0_isLatin1_aae02 ho l9 D9) hd_J0_isLatin1_aae02 kv659 kv660 kv661 (by show rm_J0_isLatin1_aae02.frames + 1 ≤ rm_J0_charAt_5068e.frames; decide) (by show 8 + (1 + 11) + rm_J0_isLatin1_aae02.locals ≤ rm_J0_charAt_5068e.locals; decide) (by show 0 + rm_J0_isLatin1_aae02.cells ≤ rm_J0_charAt_5068e.cells; decide) (by show 0 + rm_J0_isLatin1_aae02.slots ≤ rm_J0_charAt_5068e.slots; decide) rfl rfl (by show 0 ≤ 8; decide) dJ0_charAt_5068e_1 (fun r9 w9 hp9 => ?_)
  obtain ⟨hr9, hw9⟩ := hp9
  rw [hr9, hw9]
  clear hr9 hw9
  show yW G ws 0 0 [(0, .ref a), (1, .int (nI i))] [.int 1] 4
  refine y_if_eq (tgt := 16) hG dJ0_charAt_5068e_4 (by decide) (fun q9 => absurd q9 (by decide)) (fun _ => ?_)
  refine y_aload_n 0 hG dJ0_charAt_5068e_7 rfl rfl ?_
  refine y_sval hG hC ho kv640 dJ0_charAt_5068e_8 ?_
  refine y_iload_n 1 hG dJ0_charAt_5068e_11 rfl rfl ?_
  refine y_callS [.ref va, .int (nI i)] hG hC hR (fun l9 D9 => c_J1_charAt_3b067 ho hi hL hb l9 D9) hd_J1_charAt_3b067 kv663 kv664 (by show rm_J1_charAt_3b067.frames + 1 ≤ rm_J0_charAt_5068e.frames; decide) (by show 8 + (2 + 11) + rm_J1_charAt_3b067.locals ≤ rm_J0_charAt_5068e.locals; decide) (by show 0 + rm_J1_charAt_3b067.cells ≤ rm_J0_charAt_5068e.cells; decide) (by show 0 + rm_J1_charAt_3b067.slots ≤ rm_J0_charAt_5068e.slots; decide) rfl rfl (by show 0 ≤ 8; decide) dJ0_charAt_5068e_12 (fun r9 w9 hp9 => ?_)
  obtain ⟨hr9, hw9⟩ := hp9
  rw [hr9, hw9]
  clear hr9 hw9
  show yW G ws 0 0 [(0, .ref a), (1, .int (nI i))] [.int (nI (bs.getD i 0))] 15
  exact hE _ _ _ _ dJ0_charAt_5068e_15 (jnar hb) ⟨rfl, rfl⟩
