theorem hd_J4_init_da8c8 : zHead yJ4_init_da8c8 cJ4_init_da8c8 1 0 none := ⟨kv457, kv7, by decide +kernel, by decide +kernel, by decide +kernel⟩
theorem hd_J4_append_15ec4 : zHead yJ4_append_15ec4 cJ4_append_15ec4 2 1 (some (.object "java/lang/StringBuilder")) := ⟨kv486, kv7, by decide +kernel, by decide +kernel, by decide +kernel⟩
theorem hd_J4_toString_0e30d : zHead yJ4_toString_0e30d cJ4_toString_0e30d 1 0 (some (.object "java/lang/String")) := ⟨kv594, kv7, by decide +kernel, by decide +kernel, by decide +kernel⟩
theorem hd_L_line : zHead yL_line cL_line 7 2 (some (.object "java/lang/String")) := ⟨kv424, kw0, by decide +kernel, by decide +kernel, by decide +kernel⟩
section QS
variable {G : nCx} {D : va_G} {cB cS : ClassId} {adK adV : Nat → Nat} {ar k0 : Nat} {os ds : List oSt} {cells slots : Nat} {lv lv' : zLv} {st : List Value} {pc : Nat} {cc : ByteArray} {nL : Nat}
theorem q_sbInit {b : Nat} {rmG : Room} (hG : nOK G "LineLearnerLaw" cc nL) (hQ : qG G D cB adK adV) (hRm : nRoom G rmG) (hf : rm_J4_init_da8c8.frames + 1 ≤ rmG.frames) (hlo : 8 + (1 + 11) + rm_J4_init_da8c8.locals ≤ rmG.locals) (hce : cells + 1 ≤ rmG.cells) (hsl : slots + 16 ≤ rmG.slots) (hcat : (st.map fun v => v.category).sum ≤ 8) (hd : decode cc pc = .ok (.invokespecial 55, 3))
    (kk : ∀ v, nW G (uJ G (qL G D cB cS adK ar k0 [jB b v 0, jA cB v 16 (fun _ => 0)] os ds)) (cells + 1) (slots + 16) lv st (pc + 3)) : nW G (uJ G (qL G D cB cS adK ar k0 [jO 1 b] os ds)) cells slots lv (.ref b :: st) pc := by
  refine q_callI (os' := []) [] hG hQ hRm (fun l D => c_J4_init_da8c8 l D) (fun o h => by simp at h) hd_J4_init_da8c8 rfl kv455 kv456 hf hlo hce hsl rfl rfl hcat hd (fun r w hp => ?_)
  obtain ⟨v, rfl, rfl⟩ := hp
  exact kk v
theorem q_sbAppend {b v n N a va : Nat} {g : Nat → Int32} {bs : List Nat} {rmG : Room} (hG : nOK G "LineLearnerLaw" cc nL) (hQ : qG G D cB adK adV) (hRm : nRoom G rmG) (ho : (a, va, bs) ∈ os) (hb : ∀ b ∈ bs, b < 128) (hnN : n ≤ N) (hN2 : N ≤ 220) (hq2 : N + max (n + bs.length - N) (N + 2) ≤ 220) (hg : jF g) (hf : rm_J4_append_15ec4.frames + 1 ≤ rmG.frames) (hlo : 8 + (2 + 11) + rm_J4_append_15ec4.locals ≤ rmG.locals) (hce : cells + 1 ≤ rmG.cells) (hsl : slots + 220 ≤ rmG.slots) (hcat : (st.map fun v => v.category).sum ≤ 8) (hd : decode cc pc = .ok (.invokevirtual 56, 3))
    (kk : ∀ v' N' g', n + bs.length ≤ N' → N' ≤ N + max (n + bs.length - N) (N + 2) → jF g' → (∀ j, j < n → g' j = g j) → (∀ j, j < bs.length → g' (n + j) = nI (bs.getD j 0)) → nW G (uJ G (qL G D cB cS adK ar k0 [jB b v' (n + bs.length), jA cB v' N' g'] os ds)) (cells + 1) (slots + 220) lv (.ref b :: st) (pc + 3)) : nW G (uJ G (qL G D cB cS adK ar k0 [jB b v n, jA cB v N g] os ds)) cells slots lv (.ref a :: .ref b :: st) pc := by
  refine q_callU (q0 := 0) (os' := [(a, va, bs)]) [.ref a] hG hQ hRm (fun l D => c_J4_append_15ec4 (List.mem_singleton.mpr rfl) hb hnN hN2 hq2 hg l D) (fun o h => by cases List.mem_singleton.mp h; exact ho) hd_J4_append_15ec4 kv483 kv484 kv485 rfl rfl hf hlo hce hsl rfl rfl hcat hd (fun r w hp => ?_)
  obtain ⟨v', N', g', rfl, rfl, h1, h2, h3, h4, h5, h6⟩ := hp
  exact kk v' N' g' h1 h3 h4 h5 h6
theorem q_sbStr {b v n N : Nat} {g : Nat → Int32} {rmG : Room} (hG : nOK G "LineLearnerLaw" cc nL) (hQ : qG G D cB adK adV) (hRm : nRoom G rmG) (hnN : n ≤ N) (hN2 : N ≤ 220) (hg : jF g) (hf : rm_J4_toString_0e30d.frames + 1 ≤ rmG.frames) (hlo : 8 + (1 + 11) + rm_J4_toString_0e30d.locals ≤ rmG.locals) (hce : cells + 2 ≤ rmG.cells) (hsl : slots + 224 ≤ rmG.slots) (hcat : (st.map fun v => v.category).sum ≤ 8) (hd : decode cc pc = .ok (.invokevirtual 60, 3))
    (kk : ∀ s x g', (∀ j, j < n → g' j = g j) → nW G (uJ G (qL G D cB cS adK ar k0 [jB b v n, jA cB v N g, jS s x, jA cB x n g'] os ds)) (cells + 2) (slots + 224) lv (.ref s :: st) (pc + 3)) : nW G (uJ G (qL G D cB cS adK ar k0 [jB b v n, jA cB v N g] os ds)) cells slots lv (.ref b :: st) pc := by
  refine q_callU (q0 := 0) (os' := []) [] hG hQ hRm (fun l D => c_J4_toString_0e30d hnN hN2 hg l D) (fun o h => by simp at h) hd_J4_toString_0e30d kv591 kv592 kv593 rfl rfl hf hlo hce hsl rfl rfl hcat hd (fun r w hp => ?_)
  obtain ⟨s, x, g', rfl, rfl, h1⟩ := hp
  exact kk s x g' h1
end QS
/-- what a line is made of, k rounds behind -/
def zPl (k : Nat) (bs : List Nat) : Prop := match k with
  | 0 => bs = []
  | 1 => ∃ h, h < 2 ∧ bs = sxB h
  | k + 2 => ∃ (h : Nat) (r : List Nat), h < 2 ∧ r.length ≤ k ∧ (∀ i ∈ r, i < 15) ∧ bs = sxB h ++ (sxB 2 ++ (r.map sxB).flatten) ∧ bs.length ≤ 24
theorem sxB_lt : ∀ i, i < 16 → (sxB i).length ≤ 6 ∧ ∀ b ∈ sxB i, 32 ≤ b ∧ b < 127 := by decide +kernel
theorem zPl_b {k : Nat} {bs : List Nat} (h : zPl k bs) : bs.length ≤ 24 ∧ ∀ b ∈ bs, 32 ≤ b ∧ b < 127 := by
  match k, h with
  | 0, h => cases h; exact ⟨by decide, fun b hb => by simp at hb⟩
  | 1, h =>
    obtain ⟨a, h1, rfl⟩ := h
    have := sxB_lt a (by omega)
    exact ⟨by omega, this.2⟩
  | k + 2, h =>
    obtain ⟨a, r, h1, h2, h3, h4, h5⟩ := h
    refine ⟨h5, fun b hb => ?_⟩
    rw [h4] at hb
    rcases List.mem_append.mp hb with q | q
    · exact (sxB_lt a (by omega)).2 b q
    · rcases List.mem_append.mp q with q | q
      · exact (sxB_lt 2 (by omega)).2 b q
      · obtain ⟨l, hl, hb⟩ := List.mem_flatten.mp q
        obtain ⟨i, hi, rfl⟩ := List.mem_map.mp hl
        exact (sxB_lt i (by have := h3 i hi; omega)).2 b hb
theorem zPl_0 {bs : List Nat} {i : Nat} (h : zPl 0 bs) (hi : i < 2) : zPl 1 (bs ++ sxB i) := by
  cases h
  exact ⟨i, hi, rfl⟩
theorem zPl_1 {bs : List Nat} (h : zPl 1 bs) : zPl 2 (bs ++ sxB 2) := by
  obtain ⟨a, h1, rfl⟩ := h
  refine ⟨a, [], h1, Nat.le_refl _, fun i hi => by simp at hi, by simp, ?_⟩
  have := (sxB_lt a (by omega)).1
  have := (sxB_lt 2 (by omega)).1
  rw [List.length_append]
  omega
theorem zPl_2 {k i : Nat} {bs : List Nat} (h : zPl (k + 2) bs) (hi : i < 15) (hl : (bs ++ sxB i).length ≤ 24) : zPl (k + 3) (bs ++ sxB i) := by
  obtain ⟨a, r, h1, h2, h3, rfl, h5⟩ := h
  refine ⟨a, r ++ [i], h1, by rw [List.length_append]; simp; omega, fun j hj => ?_, by simp, hl⟩
  rcases List.mem_append.mp hj with q | q
  · exact h3 j q
  · cases List.mem_singleton.mp q
    exact hi
theorem zPl_3 {k : Nat} {bs : List Nat} (h : zPl (k + 2) bs) : zPl (k + 3) bs := by
  obtain ⟨a, r, h1, h2, h3, h4, h5⟩ := h
  exact ⟨a, r, h1, by omega, h3, h4, h5⟩
def zPline (bs : List Nat) : Prop := ∃ k, k ≤ 7 ∧ zPl k bs
abbrev rm_L_line : Room := { frames := 10, cells := 43, slots := 4803, locals := 400 }
section LINE
variable {G : nCx} {D : va_G} {cB cS : ClassId} {adK adV : Nat → Nat} {x : Int32}
theorem jge {a b : Nat} (ha : a < 2 ^ 31) (hb : b < 2 ^ 31) (h : nI a ≤ nI b) : a ≤ b := (nI_leI ha hb).mp h
theorem jgt {a b : Nat} (ha : a < 2 ^ 31) (hb : b < 2 ^ 31) (h : ¬ nI a ≤ nI b) : b < a := by
  by_cases q : a ≤ b
  · exact absurd ((nI_leI ha hb).mpr q) h
  · omega
def lPost (D : va_G) (cB : ClassId) (adK adV : Nat → Nat) (sz : Nat) (r : Option Value) (H : Heap) : Prop := ∃ o : oSt, r = some (.ref o.1) ∧ zPline o.2.2 ∧ ((o = (adK 15, adV 15, sxB 15)) ∨ (sz ≤ o.1 ∧ sz ≤ o.2.1 ∧ qD D cB H o))
theorem s_line_170 {ar k v ca cv c s i : Nat} {os ds : List oSt} {bs : List Nat} (hG : nOK G "LineLearnerLaw" cL_line 7) (hR : nRoom G rm_L_line) (hQ : qG G D cB adK adV) (hK : va_K D jCl [(cB, .byte), (cS, .object "java/lang/String")] (nS G)) (hbl : bs.length ≤ 24) (hbs : ∀ b ∈ bs, 32 ≤ b ∧ b < 127) (ho : (ca, cv, bs) ∈ os) (hi : i < 16) (hoi : (adK i, adV i, sxB i) ∈ os) (hce : c + 6 ≤ 43) (hsl : s + 684 ≤ 4803)
    (kk : ∀ sa xa, nW G (uJ G (qL G D cB cS adK ar 15 [] ((sa, xa, bs ++ sxB i) :: os) ((sa, xa, bs ++ sxB i) :: ds))) (c + 6) (s + 684) [(3, .ref sa), (6, .ref (adK i)), (5, .int (nI k)), (4, .int (nI v)), (2, .ref ar), (0, .int x), (1, .int (nI 24))] [] 190) :
    nW G (uJ G (qL G D cB cS adK ar 15 [] os ds)) c s [(6, .ref (adK i)), (5, .int (nI k)), (4, .int (nI v)), (3, .ref ca), (2, .ref ar), (0, .int x), (1, .int (nI 24))] [] 170 := by
  have hi2 := sxB_lt i hi
  have hce1 : c + 1 ≤ rm_L_line.cells := by show c + 1 ≤ 43; omega
  have hsl1 : s + 4 ≤ rm_L_line.slots := by show s + 4 ≤ 4803; omega
  have hce2 : c + 1 + 1 ≤ rm_L_line.cells := by show c + 1 + 1 ≤ 43; omega
  have hsl2 : s + 4 + 16 ≤ rm_L_line.slots := by show s + 4 + 16 ≤ 4803; omega
  have hce3 : c + 1 + 1 + 1 ≤ rm_L_line.cells := by show c + 1 + 1 + 1 ≤ 43; omega
  have hsl3 : s + 4 + 16 + 220 ≤ rm_L_line.slots := by show s + 4 + 16 + 220 ≤ 4803; omega
  have hce4 : c + 1 + 1 + 1 + 1 ≤ rm_L_line.cells := by show c + 1 + 1 + 1 + 1 ≤ 43; omega
  have hsl4 : s + 4 + 16 + 220 + 220 ≤ rm_L_line.slots := by show s + 4 + 16 + 220 + 220 ≤ 4803; omega
  have hce5 : c + 1 + 1 + 1 + 1 + 2 ≤ rm_L_line.cells := by show c + 1 + 1 + 1 + 1 + 2 ≤ 43; omega
  have hsl5 : s + 4 + 16 + 220 + 220 + 224 ≤ rm_L_line.slots := by show s + 4 + 16 + 220 + 220 + 224 ≤ 4803; omega
  refine q_newSB hG hR hK kv453 kv454 kv7 hce1 hsl1 dL_line_170 (fun b => ?_)
  show nW G (uJ G (qL G D cB cS adK ar 15 [jO 1 b] os ds)) (c + 1) (s + 4) [(6, .ref (adK i)), (5, .int (nI k)), (4, .int (nI v)), (3, .ref ca), (2, .ref ar), (0, .int x), (1, .int (nI 24))] [.ref b] 173
  refine n_dup hG dL_line_173 rfl ?_
  refine q_sbInit hG hQ hR (by decide) (by decide) hce2 hsl2 (Nat.le_of_ble_eq_true rfl) dL_line_174 (fun w => ?_)
  show nW G (uJ G (qL G D cB cS adK ar 15 [jB b w 0, jA cB w 16 (fun _ => 0)] os ds)) (c + 1 + 1) (s + 4 + 16) [(6, .ref (adK i)), (5, .int (nI k)), (4, .int (nI v)), (3, .ref ca), (2, .ref ar), (0, .int x), (1, .int (nI 24))] [.ref b] 177
  refine n_aload_n 3 hG dL_line_177 rfl rfl ?_
  refine q_sbAppend hG hQ hR ho (fun b hb => by have := (hbs b hb); omega) (Nat.zero_le _) (by decide) (by omega) jF0 (by decide) (by decide) hce3 hsl3 (Nat.le_of_ble_eq_true rfl) dL_line_178 (fun w1 N1 g1 a1 a2 a3 a4 a5 => ?_)
  show nW G (uJ G (qL G D cB cS adK ar 15 [jB b w1 (0 + bs.length), jA cB w1 N1 g1] os ds)) (c + 1 + 1 + 1) (s + 4 + 16 + 220) [(6, .ref (adK i)), (5, .int (nI k)), (4, .int (nI v)), (3, .ref ca), (2, .ref ar), (0, .int x), (1, .int (nI 24))] [.ref b] 181
  refine n_aload 0 hG dL_line_181 rfl ?_
  refine q_sbAppend hG hQ hR hoi (fun b hb => by have := (hi2.2 b hb); omega) a1 (by omega) (by omega) a3 (by decide) (by decide) hce4 hsl4 (Nat.le_of_ble_eq_true rfl) dL_line_183 (fun w2 N2 g2 b1 b2 b3 b4 b5 => ?_)
  show nW G (uJ G (qL G D cB cS adK ar 15 [jB b w2 (0 + bs.length + (sxB i).length), jA cB w2 N2 g2] os ds)) (c + 1 + 1 + 1 + 1) (s + 4 + 16 + 220 + 220) [(6, .ref (adK i)), (5, .int (nI k)), (4, .int (nI v)), (3, .ref ca), (2, .ref ar), (0, .int x), (1, .int (nI 24))] [.ref b] 186
  refine q_sbStr hG hQ hR b1 (by omega) b3 (by decide) (by decide) hce5 hsl5 (Nat.le_of_ble_eq_true rfl) dL_line_186 (fun sa xa g3 c1 => ?_)
  show nW G (uJ G (qL G D cB cS adK ar 15 [jB b w2 (0 + bs.length + (sxB i).length), jA cB w2 N2 g2, jS sa xa, jA cB xa (0 + bs.length + (sxB i).length) g3] os ds)) (c + 1 + 1 + 1 + 1 + 2) (s + 4 + 16 + 220 + 220 + 224) [(6, .ref (adK i)), (5, .int (nI k)), (4, .int (nI v)), (3, .ref ca), (2, .ref ar), (0, .int x), (1, .int (nI 24))] [.ref sa] 189
  refine n_conv (J' := uJ G (qL G D cB cS adK ar 15 [] ((sa, xa, bs ++ sxB i) :: os) ((sa, xa, bs ++ sxB i) :: ds))) (fun H locs h => qL.out hG.2.2.2.2.2 hQ.1 (by rw [List.length_append, Nat.zero_add]) (fun j hj => ?_) h) ?_
  · rw [c1 j hj]
    by_cases hq : j < 0 + bs.length
    · rw [b4 j hq]
      have := a5 j (by omega)
      rw [Nat.zero_add] at this
      rw [this]
      congr 1
      rw [List.getD_eq_getElem?_getD, List.getD_eq_getElem?_getD, List.getElem?_append_left (by omega)]
    · have := b5 (j - (0 + bs.length)) (by omega)
      rw [show 0 + bs.length + (j - (0 + bs.length)) = j by omega] at this
      rw [this]
      congr 1
      rw [List.getD_eq_getElem?_getD, List.getD_eq_getElem?_getD, List.getElem?_append_right (by omega), Nat.zero_add]
  refine n_astore_n (lv' := [(3, .ref sa), (6, .ref (adK i)), (5, .int (nI k)), (4, .int (nI v)), (2, .ref ar), (0, .int x), (1, .int (nI 24))]) hG dL_line_189 rfl (by decide) rfl ?_
  exact kk sa xa
theorem s_line_156 {ar k v ca cv c s i : Nat} {os ds : List oSt} {bs : List Nat} (hG : nOK G "LineLearnerLaw" cL_line 7) (hR : nRoom G rm_L_line) (hQ : qG G D cB adK adV) (hK : va_K D jCl [(cB, .byte), (cS, .object "java/lang/String")] (nS G)) (hbl : bs.length ≤ 24) (hbs : ∀ b ∈ bs, 32 ≤ b ∧ b < 127) (ho : (ca, cv, bs) ∈ os) (hi : i < 16) (hoi : (adK i, adV i, sxB i) ∈ os) (hce : c + 6 ≤ 43) (hsl : s + 684 ≤ 4803)
    (k1 : ¬ bs.length + (sxB i).length ≤ 24 → nW G (uJ G (qL G D cB cS adK ar 15 [] os ds)) c s [(6, .ref (adK i)), (5, .int (nI k)), (4, .int (nI v)), (3, .ref ca), (2, .ref ar), (0, .int x), (1, .int (nI 24))] [] 190)
    (kk : bs.length + (sxB i).length ≤ 24 → ∀ sa xa, nW G (uJ G (qL G D cB cS adK ar 15 [] ((sa, xa, bs ++ sxB i) :: os) ((sa, xa, bs ++ sxB i) :: ds))) (c + 6) (s + 684) [(3, .ref sa), (6, .ref (adK i)), (5, .int (nI k)), (4, .int (nI v)), (2, .ref ar), (0, .int x), (1, .int (nI 24))] [] 190) :
    nW G (uJ G (qL G D cB cS adK ar 15 [] os ds)) c s [(6, .ref (adK i)), (5, .int (nI k)), (4, .int (nI v)), (3, .ref ca), (2, .ref ar), (0, .int x), (1, .int (nI 24))] [] 156 := by
  have hi2 := sxB_lt i hi
  have hc0 : c ≤ rm_L_line.cells := by show c ≤ 43; omega
  have hs0 : s ≤ rm_L_line.slots := by show s ≤ 4803; omega
  refine n_aload_n 3 hG dL_line_156 rfl rfl ?_
  refine n_len hG hR qL.ext (qStr hQ ho) kv443 (by decide) (by decide) (Nat.le_of_ble_eq_true rfl) dL_line_157 hc0 hs0 ?_
  show nW G (uJ G (qL G D cB cS adK ar 15 [] os ds)) c s [(6, .ref (adK i)), (5, .int (nI k)), (4, .int (nI v)), (3, .ref ca), (2, .ref ar), (0, .int x), (1, .int (nI 24))] [.int (nI bs.length)] 160
  refine n_aload 0 hG dL_line_160 rfl ?_
  refine n_len hG hR qL.ext (qStr hQ hoi) kv443 (by decide) (by decide) (Nat.le_of_ble_eq_true rfl) dL_line_162 hc0 hs0 ?_
  show nW G (uJ G (qL G D cB cS adK ar 15 [] os ds)) c s [(6, .ref (adK i)), (5, .int (nI k)), (4, .int (nI v)), (3, .ref ca), (2, .ref ar), (0, .int x), (1, .int (nI 24))] [.int (nI (sxB i).length), .int (nI bs.length)] 165
  refine n_iadd (z := nI (bs.length + (sxB i).length)) hG dL_line_165 (nI_add _ _) ?_
  refine n_iload_n 6 hG dL_line_166 rfl rfl ?_
  refine n_icmp_gt (tgt := 190) hG dL_line_167 (by decide) (fun q167 => ?_) (fun q167 => ?_)
  · exact k1 (fun z => absurd ((nI_leI (by omega) (by omega)).mpr z) (Int32.not_le.mpr q167))
  · exact s_line_170 hG hR hQ hK hbl hbs ho hi hoi hce hsl (kk (jge (by omega) (by omega) (Int32.not_lt.mp q167)))
theorem s_line_104 {ar k v ca cv c s : Nat} {os ds : List oSt} {bs : List Nat} (hG : nOK G "LineLearnerLaw" cL_line 7) (hR : nRoom G rm_L_line) (hQ : qG G D cB adK adV) (hK : va_K D jCl [(cB, .byte), (cS, .object "java/lang/String")] (nS G)) (hv : v < 8) (hk : k < v) (hz : zPl k bs) (ho : (ca, cv, bs) ∈ os) (hlit : ∀ i, i < 16 → (adK i, adV i, sxB i) ∈ os) (hce : c + 6 ≤ 43) (hsl : s + 684 ≤ 4803)
    (k1 : zPl (k + 1) bs → nW G (uJ G (qL G D cB cS adK ar 15 [] os ds)) c s [(5, .int (nI (k + 1))), (4, .int (nI v)), (3, .ref ca), (2, .ref ar), (0, .int x), (1, .int (nI 24))] [] 104)
    (k2 : ∀ i sa xa, i < 15 → zPl (k + 1) (bs ++ sxB i) → nW G (uJ G (qL G D cB cS adK ar 15 [] ((sa, xa, bs ++ sxB i) :: os) ((sa, xa, bs ++ sxB i) :: ds))) (c + 6) (s + 684) [(5, .int (nI (k + 1))), (4, .int (nI v)), (3, .ref sa), (2, .ref ar), (0, .int x), (1, .int (nI 24))] [] 104) :
    nW G (uJ G (qL G D cB cS adK ar 15 [] os ds)) c s [(5, .int (nI k)), (4, .int (nI v)), (3, .ref ca), (2, .ref ar), (0, .int x), (1, .int (nI 24))] [] 104 := by
  have hb := zPl_b hz
  have hc0 : c ≤ rm_L_line.cells := by show c ≤ 43; omega
  have hs0 : s ≤ rm_L_line.slots := by show s ≤ 4803; omega
  have e1 : ∀ i : Nat, i < 15 → ¬ bs.length + (sxB i).length ≤ 24 → (zPl (k + 1) bs) → nW G (uJ G (qL G D cB cS adK ar 15 [] os ds)) c s [(6, .ref (adK i)), (5, .int (nI k)), (4, .int (nI v)), (3, .ref ca), (2, .ref ar), (0, .int x), (1, .int (nI 24))] [] 190 := fun i hi hn hz1 => by
    refine n_iinc (lv' := [(5, .int (nI (k + 1))), (6, .ref (adK i)), (4, .int (nI v)), (3, .ref ca), (2, .ref ar), (0, .int x), (1, .int (nI 24))]) (v := nI (k + 1)) 1 hG dL_line_190 rfl (nI_1 k) (by decide) rfl ?_
    refine n_goto (tgt := 104) hG dL_line_193 (by decide) ?_
    refine n_perm (lv' := [(5, .int (nI (k + 1))), (4, .int (nI v)), (3, .ref ca), (2, .ref ar), (0, .int x), (1, .int (nI 24))]) [0, 2, 3, 4, 5, 6] rfl ?_
    exact k1 hz1
  have e2 : ∀ i : Nat, i < 15 → zPl (k + 1) (bs ++ sxB i) → ∀ sa xa, nW G (uJ G (qL G D cB cS adK ar 15 [] ((sa, xa, bs ++ sxB i) :: os) ((sa, xa, bs ++ sxB i) :: ds))) (c + 6) (s + 684) [(3, .ref sa), (6, .ref (adK i)), (5, .int (nI k)), (4, .int (nI v)), (2, .ref ar), (0, .int x), (1, .int (nI 24))] [] 190 := fun i hi hz1 sa xa => by
    refine n_iinc (lv' := [(5, .int (nI (k + 1))), (3, .ref sa), (6, .ref (adK i)), (4, .int (nI v)), (2, .ref ar), (0, .int x), (1, .int (nI 24))]) (v := nI (k + 1)) 2 hG dL_line_190 rfl (nI_1 k) (by decide) rfl ?_
    refine n_goto (tgt := 104) hG dL_line_193 (by decide) ?_
    refine n_perm (lv' := [(5, .int (nI (k + 1))), (4, .int (nI v)), (3, .ref sa), (2, .ref ar), (0, .int x), (1, .int (nI 24))]) [0, 3, 1, 4, 5, 6] rfl ?_
    exact k2 i sa xa hi hz1
  have e3 : ∀ i : Nat, i < 15 → (k = 0 → i < 2) → (k = 1 → i = 2) → nW G (uJ G (qL G D cB cS adK ar 15 [] os ds)) c s [(5, .int (nI k)), (4, .int (nI v)), (3, .ref ca), (2, .ref ar), (0, .int x), (1, .int (nI 24))] [.ref (adK i)] 154 := fun i hi h0 h1 => by
    have key : (bs.length + (sxB i).length ≤ 24 → zPl (k + 1) (bs ++ sxB i)) ∧ (¬ bs.length + (sxB i).length ≤ 24 → zPl (k + 1) bs) := by
      match k, hz, h0, h1 with
      | 0, hz, h0, _ =>
        have := zPl_0 hz (h0 rfl)
        refine ⟨fun _ => this, fun h => ?_⟩
        have h9 := (zPl_b this).1
        rw [List.length_append] at h9
        omega
      | 1, hz, _, h1 =>
        cases h1 rfl
        have := zPl_1 hz
        refine ⟨fun _ => this, fun h => ?_⟩
        have h9 := (zPl_b this).1
        rw [List.length_append] at h9
        omega
      | k + 2, hz, _, _ => exact ⟨fun h => zPl_2 hz hi (by rw [List.length_append]; exact h), fun _ => zPl_3 hz⟩
    refine n_astore (lv' := [(6, .ref (adK i)), (5, .int (nI k)), (4, .int (nI v)), (3, .ref ca), (2, .ref ar), (0, .int x), (1, .int (nI 24))]) hG dL_line_154 (by decide) rfl ?_
    exact s_line_156 hG hR hQ hK hb.1 hb.2 ho (by omega) (hlit i (by omega)) (by omega) (by omega) (fun q => e1 i hi q (key.2 q)) (fun q => e2 i hi (key.1 q))

  refine n_iload 0 hG dL_line_104 rfl ?_
  refine n_iload 1 hG dL_line_106 rfl ?_
  refine n_icmp_ge (tgt := 196) hG dL_line_108 (by decide) (fun q9 => absurd q9 (nI_ge hk (by omega))) (fun _ => ?_)
  refine n_iload 0 hG dL_line_111 rfl ?_
  refine n_if_ne (tgt := 128) hG dL_line_113 (by decide) (fun q113 => ?_) (fun q113 => ?_)
  · refine n_iload 0 hG dL_line_128 rfl ?_
    refine n_iconst (nI 1) hG dL_line_130 (by decide) ?_
    refine n_icmp_ne (tgt := 139) hG dL_line_131 (by decide) (fun q131 => ?_) (fun q131 => ?_)
    · refine n_aload_n 3 hG dL_line_139 rfl rfl ?_
      refine n_iload_n 4 hG dL_line_140 rfl rfl ?_
      refine n_iconst 2 hG dL_line_141 (by decide) ?_
      refine n_iload 0 hG dL_line_142 rfl ?_
      refine n_imul (z := (2 * nI k)) hG dL_line_144 rfl ?_
      refine n_iconst 3 hG dL_line_145 (by decide) ?_
      refine n_iadd (z := (2 * nI k + 3)) hG dL_line_146 rfl ?_
      refine n_ishr (z := (x >>> ((2 * nI k + 3) &&& 31))) hG dL_line_147 rfl ?_
      refine n_bipush (nI 15) hG dL_line_148 (by decide) ?_
      refine n_below (N := 15) hG hR qL.ext kv417 (by decide) (by decide) (by decide) (by decide) (Nat.le_of_ble_eq_true rfl) dL_line_150 hc0 hs0 (fun w hw => ?_)
      show nW G (uJ G (qL G D cB cS adK ar 15 [] os ds)) c s [(5, .int (nI k)), (4, .int (nI v)), (3, .ref ca), (2, .ref ar), (0, .int x), (1, .int (nI 24))] [.int (nI w), .ref ar] 153
      refine q_get hG hK (v := w) (k := 15) (by omega) (by decide) dL_line_153 ?_
      show nW G (uJ G (qL G D cB cS adK ar 15 [] os ds)) c s [(5, .int (nI k)), (4, .int (nI v)), (3, .ref ca), (2, .ref ar), (0, .int x), (1, .int (nI 24))] [.ref (adK w)] 154
      exact e3 _ (by omega) (fun h => absurd (by rw [h]; rfl) q113) (fun h => absurd (by rw [h]) q131)
    · refine q_ldc (i := 2) hG hQ (by decide) rfl dL_line_134 ?_
      show nW G (uJ G (qL G D cB cS adK ar 15 [] os ds)) c s [(5, .int (nI k)), (4, .int (nI v)), (3, .ref ca), (2, .ref ar), (0, .int x), (1, .int (nI 24))] [.ref (adK 2)] 136
      refine n_goto (tgt := 154) hG dL_line_136 (by decide) ?_
      exact e3 _ (by omega) (fun h => absurd (by rw [h]; rfl) q113) (fun _ => rfl)
  · refine n_aload_n 3 hG dL_line_116 rfl rfl ?_
    refine n_iload_n 4 hG dL_line_117 rfl rfl ?_
    refine n_iconst 3 hG dL_line_118 (by decide) ?_
    refine n_ishr (z := (x >>> ((3 : Int32) &&& 31))) hG dL_line_119 rfl ?_
    refine n_iconst (nI 2) hG dL_line_120 (by decide) ?_
    refine n_below (N := 2) hG hR qL.ext kv417 (by decide) (by decide) (by decide) (by decide) (Nat.le_of_ble_eq_true rfl) dL_line_121 hc0 hs0 (fun w hw => ?_)
    show nW G (uJ G (qL G D cB cS adK ar 15 [] os ds)) c s [(5, .int (nI k)), (4, .int (nI v)), (3, .ref ca), (2, .ref ar), (0, .int x), (1, .int (nI 24))] [.int (nI w), .ref ar] 124
    refine q_get hG hK (v := w) (k := 15) (by omega) (by decide) dL_line_124 ?_
    show nW G (uJ G (qL G D cB cS adK ar 15 [] os ds)) c s [(5, .int (nI k)), (4, .int (nI v)), (3, .ref ca), (2, .ref ar), (0, .int x), (1, .int (nI 24))] [.ref (adK w)] 125
    refine n_goto (tgt := 154) hG dL_line_125 (by decide) ?_
    exact e3 _ (by omega) (fun _ => hw) (fun h => absurd (q113.symm.trans (by rw [h])) (by decide))
end LINE
set_option maxRecDepth 100000 in
theorem c_L_line {D : va_G} {cB : ClassId} {adK adV : Nat → Nat} {x : Int32} : ∀ (l : Launch), uMt l yL_line cL_line 7 (some (.object "java/lang/String")) rm_L_line (fun sz U => va_K D jCl [(cB, .byte)] U ∧ zTx adK adV (fun q => sz ≤ q) U U.heap ∧ va_AO "java/lang/String" U) [.int x, .int (nI 24)] (lPost D cB adK adV) := by
  intro l
  refine uMt.ofA (Or.inl ⟨_, rfl⟩) (by decide +kernel) (Nat.le_of_ble_eq_true rfl) fun G hG hR hQ hE => ?_
  replace hQ : qG G D cB adK adV := hQ
  have loop : ∀ (ar : Nat) (cS : ClassId), va_K D jCl [(cB, .byte), (cS, .object "java/lang/String")] (nS G) → ∀ (v d k ca cv c s : Nat) (os ds : List oSt) (bs : List Nat), v < 8 → k + d = v → zPl k bs → (ca, cv, bs) ∈ os → (∀ i, i < 16 → (adK i, adV i, sxB i) ∈ os) → ((ca, cv, bs) = (adK 15, adV 15, sxB 15) ∨ (ca, cv, bs) ∈ ds) → c + 6 * d ≤ 43 → s + 684 * d ≤ 4803 → nW G (uJ G (qL G D cB cS adK ar 15 [] os ds)) c s [(5, .int (nI k)), (4, .int (nI v)), (3, .ref ca), (2, .ref ar), (0, .int x), (1, .int (nI 24))] [] 104 := by
    intro ar cS hK v d
    induction d with
    | zero =>
      intro k ca cv c s os ds bs hv hkd hz ho hlit hcur hc hs
      have hc0 : c ≤ rm_L_line.cells := by show c ≤ 43; omega
      have hs0 : s ≤ rm_L_line.slots := by show s ≤ 4803; omega
      refine n_iload 0 hG dL_line_104 rfl ?_
      refine n_iload 1 hG dL_line_106 rfl ?_
      refine n_icmp_ge (tgt := 196) hG dL_line_108 (by decide) (fun _ => ?_) (fun q9 => absurd (nI_le (by omega) (by omega)) q9)
      refine n_aload_n 2 hG dL_line_196 rfl rfl ?_
      refine n_widen (k := rm_L_line.cells) (n := rm_L_line.slots) hc0 hs0 hR (Nat.le_refl _) (Nat.le_refl _) ?_
      exact hE _ _ _ _ dL_line_197 (fun H hP => ⟨(ca, cv, bs), rfl, ⟨k, by omega, hz⟩, hcur.imp id (fun h => by
        obtain ⟨f, hf, h1, h2, h3, h4⟩ := hP
        obtain ⟨d1, d2, d3, d4, d5⟩ := h4 _ h
        exact ⟨d4, d5, d1⟩)⟩)
    | succ d ih =>
      intro k ca cv c s os ds bs hv hkd hz ho hlit hcur hc hs
      exact s_line_104 hG hR hQ hK hv (by omega) hz ho hlit (by omega) (by omega) (fun h => ih (k + 1) ca cv c s os ds bs hv (by omega) h ho hlit hcur (by omega) (by omega)) (fun i sa xa hi h => ih (k + 1) sa xa (c + 6) (s + 684) _ _ _ hv (by omega) h List.mem_cons_self (fun j hj => List.mem_cons_of_mem _ (hlit j hj)) (Or.inr List.mem_cons_self) (by omega) (by omega))
  show nW G (uJ G (fun H => H = (nS G).heap)) 0 0 [(0, .int x), (1, .int (nI 24))] [] 0
  refine n_bipush (nI 15) hG dL_line_0 (by decide) ?_
  refine q_arr hG hR hQ kv425 (by decide) (by decide) dL_line_2 (fun ar cS hK => ?_)
  show nW G (uJ G (qL G D cB cS adK ar 0 [] (qLits adK adV) [])) 1 15 [(0, .int x), (1, .int (nI 24))] [.ref ar] 5
  refine n_dup hG dL_line_5 rfl ?_
  refine n_iconst (nI 0) hG dL_line_6 (by decide) ?_
  refine q_ldc (i := 0) hG hQ (by decide) rfl dL_line_7 ?_
  refine q_put (k := 0) hG hQ hK (by decide) dL_line_9 ?_
  show nW G (uJ G (qL G D cB cS adK ar 1 [] (qLits adK adV) [])) 1 15 [(0, .int x), (1, .int (nI 24))] [.ref ar] 10
  refine n_dup hG dL_line_10 rfl ?_
  refine n_iconst (nI 1) hG dL_line_11 (by decide) ?_
  refine q_ldc (i := 1) hG hQ (by decide) rfl dL_line_12 ?_
  refine q_put (k := 1) hG hQ hK (by decide) dL_line_14 ?_
  show nW G (uJ G (qL G D cB cS adK ar 2 [] (qLits adK adV) [])) 1 15 [(0, .int x), (1, .int (nI 24))] [.ref ar] 15
  refine n_dup hG dL_line_15 rfl ?_
  refine n_iconst (nI 2) hG dL_line_16 (by decide) ?_
  refine q_ldc (i := 2) hG hQ (by decide) rfl dL_line_17 ?_
  refine q_put (k := 2) hG hQ hK (by decide) dL_line_19 ?_
  show nW G (uJ G (qL G D cB cS adK ar 3 [] (qLits adK adV) [])) 1 15 [(0, .int x), (1, .int (nI 24))] [.ref ar] 20
  refine n_dup hG dL_line_20 rfl ?_
  refine n_iconst (nI 3) hG dL_line_21 (by decide) ?_
  refine q_ldc (i := 3) hG hQ (by decide) rfl dL_line_22 ?_
  refine q_put (k := 3) hG hQ hK (by decide) dL_line_24 ?_
  show nW G (uJ G (qL G D cB cS adK ar 4 [] (qLits adK adV) [])) 1 15 [(0, .int x), (1, .int (nI 24))] [.ref ar] 25
  refine n_dup hG dL_line_25 rfl ?_
  refine n_iconst (nI 4) hG dL_line_26 (by decide) ?_
  refine q_ldc (i := 4) hG hQ (by decide) rfl dL_line_27 ?_
  refine q_put (k := 4) hG hQ hK (by decide) dL_line_29 ?_
  show nW G (uJ G (qL G D cB cS adK ar 5 [] (qLits adK adV) [])) 1 15 [(0, .int x), (1, .int (nI 24))] [.ref ar] 30
  refine n_dup hG dL_line_30 rfl ?_
  refine n_iconst (nI 5) hG dL_line_31 (by decide) ?_
  refine q_ldc (i := 5) hG hQ (by decide) rfl dL_line_32 ?_
  refine q_put (k := 5) hG hQ hK (by decide) dL_line_34 ?_
  show nW G (uJ G (qL G D cB cS adK ar 6 [] (qLits adK adV) [])) 1 15 [(0, .int x), (1, .int (nI 24))] [.ref ar] 35
  refine n_dup hG dL_line_35 rfl ?_
  refine n_bipush (nI 6) hG dL_line_36 (by decide) ?_
  refine q_ldc (i := 6) hG hQ (by decide) rfl dL_line_38 ?_
  refine q_put (k := 6) hG hQ hK (by decide) dL_line_40 ?_
  show nW G (uJ G (qL G D cB cS adK ar 7 [] (qLits adK adV) [])) 1 15 [(0, .int x), (1, .int (nI 24))] [.ref ar] 41
  refine n_dup hG dL_line_41 rfl ?_
  refine n_bipush (nI 7) hG dL_line_42 (by decide) ?_
  refine q_ldc (i := 7) hG hQ (by decide) rfl dL_line_44 ?_
  refine q_put (k := 7) hG hQ hK (by decide) dL_line_46 ?_
  show nW G (uJ G (qL G D cB cS adK ar 8 [] (qLits adK adV) [])) 1 15 [(0, .int x), (1, .int (nI 24))] [.ref ar] 47
  refine n_dup hG dL_line_47 rfl ?_
  refine n_bipush (nI 8) hG dL_line_48 (by decide) ?_
  refine q_ldc (i := 8) hG hQ (by decide) rfl dL_line_50 ?_
  refine q_put (k := 8) hG hQ hK (by decide) dL_line_52 ?_
  show nW G (uJ G (qL G D cB cS adK ar 9 [] (qLits adK adV) [])) 1 15 [(0, .int x), (1, .int (nI 24))] [.ref ar] 53
  refine n_dup hG dL_line_53 rfl ?_
  refine n_bipush (nI 9) hG dL_line_54 (by decide) ?_
  refine q_ldc (i := 9) hG hQ (by decide) rfl dL_line_56 ?_
  refine q_put (k := 9) hG hQ hK (by decide) dL_line_58 ?_
  show nW G (uJ G (qL G D cB cS adK ar 10 [] (qLits adK adV) [])) 1 15 [(0, .int x), (1, .int (nI 24))] [.ref ar] 59
  refine n_dup hG dL_line_59 rfl ?_
  refine n_bipush (nI 10) hG dL_line_60 (by decide) ?_
  refine q_ldc (i := 10) hG hQ (by decide) rfl dL_line_62 ?_
  refine q_put (k := 10) hG hQ hK (by decide) dL_line_64 ?_
  show nW G (uJ G (qL G D cB cS adK ar 11 [] (qLits adK adV) [])) 1 15 [(0, .int x), (1, .int (nI 24))] [.ref ar] 65
  refine n_dup hG dL_line_65 rfl ?_
  refine n_bipush (nI 11) hG dL_line_66 (by decide) ?_
  refine q_ldc (i := 11) hG hQ (by decide) rfl dL_line_68 ?_
  refine q_put (k := 11) hG hQ hK (by decide) dL_line_70 ?_
  show nW G (uJ G (qL G D cB cS adK ar 12 [] (qLits adK adV) [])) 1 15 [(0, .int x), (1, .int (nI 24))] [.ref ar] 71
  refine n_dup hG dL_line_71 rfl ?_
  refine n_bipush (nI 12) hG dL_line_72 (by decide) ?_
  refine q_ldc (i := 12) hG hQ (by decide) rfl dL_line_74 ?_
  refine q_put (k := 12) hG hQ hK (by decide) dL_line_76 ?_
  show nW G (uJ G (qL G D cB cS adK ar 13 [] (qLits adK adV) [])) 1 15 [(0, .int x), (1, .int (nI 24))] [.ref ar] 77
  refine n_dup hG dL_line_77 rfl ?_
  refine n_bipush (nI 13) hG dL_line_78 (by decide) ?_
  refine q_ldc (i := 13) hG hQ (by decide) rfl dL_line_80 ?_
  refine q_put (k := 13) hG hQ hK (by decide) dL_line_82 ?_
  show nW G (uJ G (qL G D cB cS adK ar 14 [] (qLits adK adV) [])) 1 15 [(0, .int x), (1, .int (nI 24))] [.ref ar] 83
  refine n_dup hG dL_line_83 rfl ?_
  refine n_bipush (nI 14) hG dL_line_84 (by decide) ?_
  refine q_ldc (i := 14) hG hQ (by decide) rfl dL_line_86 ?_
  refine q_put (k := 14) hG hQ hK (by decide) dL_line_88 ?_
  show nW G (uJ G (qL G D cB cS adK ar 15 [] (qLits adK adV) [])) 1 15 [(0, .int x), (1, .int (nI 24))] [.ref ar] 89
  refine n_astore_n (lv' := [(2, .ref ar), (0, .int x), (1, .int (nI 24))]) hG dL_line_89 rfl (by decide) rfl ?_
  refine q_ldc (i := 15) hG hQ (by decide) rfl dL_line_90 ?_
  refine n_astore_n (lv' := [(3, .ref (adK 15)), (2, .ref ar), (0, .int x), (1, .int (nI 24))]) hG dL_line_92 rfl (by decide) rfl ?_
  refine n_iload_n 2 hG dL_line_93 rfl rfl ?_
  refine n_bipush (nI 8) hG dL_line_94 (by decide) ?_
  refine n_below (N := 8) hG hR qL.ext kv417 (by decide) (by decide) (by decide) (by decide) (Nat.le_of_ble_eq_true rfl) dL_line_96 (by decide) (by decide) (fun v hv => ?_)
  show nW G (uJ G (qL G D cB cS adK ar 15 [] (qLits adK adV) [])) 1 15 [(3, .ref (adK 15)), (2, .ref ar), (0, .int x), (1, .int (nI 24))] [.int (nI v)] 99
  refine n_istore (lv' := [(4, .int (nI v)), (3, .ref (adK 15)), (2, .ref ar), (0, .int x), (1, .int (nI 24))]) hG dL_line_99 (by decide) rfl ?_
  refine n_iconst (nI 0) hG dL_line_101 (by decide) ?_
  refine n_istore (lv' := [(5, .int (nI 0)), (4, .int (nI v)), (3, .ref (adK 15)), (2, .ref ar), (0, .int x), (1, .int (nI 24))]) hG dL_line_102 (by decide) rfl ?_
  exact loop ar cS hK v v 0 _ (adV 15) 1 15 _ _ [] hv (Nat.zero_add v) rfl (qLits_in (by decide)) (fun i hi => qLits_in hi) (Or.inl rfl) (by omega) (by omega)
