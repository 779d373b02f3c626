/-! the law's steps -/
/-- what the model's part must do, to come behind an answer k of the class's -/
def zPs (y : MethodName) (cc : ByteArray) (mL : Nat) (ret : Option FieldType) (rm : Room) (F : zFr) (args : List Value) (bo : Bool) (Inv : zStore → Prop) (k : Int) (J : zStore) : Prop := ∃ post, (∀ (l : Launch) (D : va_G) (cs : Nat → ClassId), l.stackTraces = false → zMt l y cc mL ret rm D cs F J (.ref (F.1 110) :: args) post) ∧ ∀ r K, post r K → ∃ v : Int, r = some (.int (zI v)) ∧ (-2147483648 ≤ v ∧ v < 2147483648) ∧ (bo = true → v = 0 ∨ v = 1) ∧ K 110 0 = k ∧ (k = 0 → K 129 0 = v) ∧ zRg K ∧ Inv K
set_option maxRecDepth 100000 in
set_option maxHeartbeats 8000000 in
theorem w_L_feed {G : zCx} {F : zFr} {I : zStore} {cells slots b L : Nat} {xs : Nat → Int32} {i : Int} {rmG : Room} {Inv : zStore → Prop} (hG : zOK G "LineLearnerLaw" cL_law 9) (hS0 : zScr G b L xs) (hR : zRoom G rmG) (hfr : 12 ≤ rmG.frames) (hlo : 428 ≤ rmG.locals) (hce : cells + 4 ≤ rmG.cells) (hsl : slots + 1400 ≤ rmG.slots) (hL : zLayL F) (hL2 : L ≤ 2048) (hi : 0 ≤ i ∧ i + 4 ≤ L)
    (hW : ∀ (l : Launch) (D : va_G) (cs : Nat → ClassId), l.stackTraces = false → zMh l yL_feed cL_feed 5 (some .int) [(0, 9, 12, 13), (0, 9, 16, 15)] rm_L_feed D cs F I [.ref (F.1 0), .long (((zJ ((zsc xs (i + 1)))) <<< ((zI 32).toInt64 &&& 63)) ||| ((zJ ((zsc xs (i + 2)))) &&& (zJ 4294967295))), .ref (F.1 129)] (fun r J => ∃ k : Int, r = some (.int (zI k)) ∧ (0 ≤ k ∧ k ≤ 2) ∧ zPs yX4_feed cX4_feed 6 (some .int) rm_X4_feed F [.long (((zJ ((zsc xs (i + 1)))) <<< ((zI 32).toInt64 &&& 63)) ||| ((zJ ((zsc xs (i + 2)))) &&& (zJ 4294967295)))] false Inv k J))
    (kk : ∀ K, Inv K → zRg K → zW G F (cells + 1 + 0) (slots + 6 + 0) K [(4, .int (zI i)), (3, .ref (F.1 129)), (2, .ref (F.1 110)), (1, .ref (F.1 0)), (0, .ref b)] [] 1759) : zW G F cells slots I [(4, .int (zI i)), (3, .ref (F.1 129)), (2, .ref (F.1 110)), (1, .ref (F.1 0)), (0, .ref b)] [] 172 := by
  refine z_aload_n 3 hG dL_law_172 rfl rfl ?_
  refine z_aload_n 4 hG dL_law_173 rfl rfl ?_
  refine z_iload 0 hG dL_law_174 rfl ?_
  refine z_iconst 1 hG dL_law_176 ?_
  refine z_iadd hG dL_law_177 ?_
  refine z_sal hG hS0 hL2 (by omega) dL_law_178 ?_
  refine z_i2l hG dL_law_179 (zsc_rg _ _) ?_
  refine z_bipush 32 hG dL_law_180 (by decide) ?_
  refine z_lshl hG dL_law_182 ?_
  refine z_aload_n 4 hG dL_law_183 rfl rfl ?_
  refine z_iload 0 hG dL_law_184 rfl ?_
  refine z_iconst 2 hG dL_law_186 ?_
  refine z_iadd hG dL_law_187 ?_
  refine z_sal hG hS0 hL2 (by omega) dL_law_188 ?_
  refine z_i2l hG dL_law_189 (zsc_rg _ _) ?_
  refine z_ldc2 4294967295 hG kw972 rfl dL_law_190 ?_
  refine z_land hG dL_law_193 ?_
  refine z_lor hG dL_law_194 ?_
  refine z_aload_n 1 hG dL_law_195 rfl rfl ?_
  refine z_callSH [.ref (F.1 0), .long (((zJ ((zsc xs (i + 1)))) <<< ((zI 32).toInt64 &&& 63)) ||| ((zJ ((zsc xs (i + 2)))) &&& (zJ 4294967295))), .ref (F.1 129)] hG hR hW hd_L_feed kw283 kw284 (by show 8 ≤ _; omega) (by show 131 ≤ _; omega) (by show cells + 1 ≤ _; omega) (by show slots + 6 ≤ _; omega) rfl rfl (Nat.le_of_ble_eq_true rfl) dL_law_196 (fun r I1 hq => ?_)
  obtain ⟨k, rfl, hk, post, hM, hp⟩ := hq
  show zW G F (cells + 1) (slots + 6) I1 [(4, .int (zI i)), (3, .ref (F.1 129)), (2, .ref (F.1 110)), (1, .ref (F.1 0)), (0, .ref b)] [.int (zI k)] 199
  refine z_istore (lv' := [(5, .int (zI k)), (4, .int (zI i)), (3, .ref (F.1 129)), (2, .ref (F.1 110)), (1, .ref (F.1 0)), (0, .ref b)]) hG dL_law_199 (by decide) rfl ?_
  refine z_aload_n 3 hG dL_law_201 rfl rfl ?_
  refine z_aload_n 5 hG dL_law_202 rfl rfl ?_
  refine z_iload 1 hG dL_law_203 rfl ?_
  refine z_iconst 1 hG dL_law_205 ?_
  refine z_iadd hG dL_law_206 ?_
  refine z_sal hG hS0 hL2 (by omega) dL_law_207 ?_
  refine z_i2l hG dL_law_208 (zsc_rg _ _) ?_
  refine z_bipush 32 hG dL_law_209 (by decide) ?_
  refine z_lshl hG dL_law_211 ?_
  refine z_aload_n 5 hG dL_law_212 rfl rfl ?_
  refine z_iload 1 hG dL_law_213 rfl ?_
  refine z_iconst 2 hG dL_law_215 ?_
  refine z_iadd hG dL_law_216 ?_
  refine z_sal hG hS0 hL2 (by omega) dL_law_217 ?_
  refine z_i2l hG dL_law_218 (zsc_rg _ _) ?_
  refine z_ldc2 4294967295 hG kw972 rfl dL_law_219 ?_
  refine z_land hG dL_law_222 ?_
  refine z_lor hG dL_law_223 ?_
  refine z_callV [.long (((zJ ((zsc xs (i + 1)))) <<< ((zI 32).toInt64 &&& 63)) ||| ((zJ ((zsc xs (i + 2)))) &&& (zJ 4294967295)))] hG hR hM hd_X4_feed kw763 kw764 kw765 rfl (zltL hL (by decide)) (zl110 hL.m) (by show 1 ≤ _; omega) (by show 25 ≤ _; omega) (by show cells + 1 + 0 ≤ _; omega) (by show slots + 6 + 0 ≤ _; omega) rfl rfl (Nat.le_of_ble_eq_true rfl) dL_law_224 (fun r K hq => ?_)
  obtain ⟨v, rfl, hv, hb, h0, h1, hrK, hI⟩ := hp r K hq
  show zW G F (cells + 1 + 0) (slots + 6 + 0) K [(5, .int (zI k)), (4, .int (zI i)), (3, .ref (F.1 129)), (2, .ref (F.1 110)), (1, .ref (F.1 0)), (0, .ref b)] [.int (zI v)] 227
  refine z_istore (lv' := [(6, .int (zI v)), (5, .int (zI k)), (4, .int (zI i)), (3, .ref (F.1 129)), (2, .ref (F.1 110)), (1, .ref (F.1 0)), (0, .ref b)]) hG dL_law_227 (by decide) rfl ?_
  refine z_aload_n 4 hG dL_law_229 rfl rfl ?_
  refine z_callV [] hG hR (c_X4_thrown hL.m hrK) hd_X4_thrown kw759 kw760 kw761 rfl (zltL hL (by decide)) (zl110 hL.m) (by show 1 ≤ _; omega) (by show 20 ≤ _; omega) (by show cells + 1 + 0 ≤ _; omega) (by show slots + 6 + 0 ≤ _; omega) rfl rfl (Nat.le_of_ble_eq_true rfl) dL_law_230 (fun r K2 hq => ?_)
  rw [hq.1, hq.2, h0]
  show zW G F (cells + 1 + 0) (slots + 6 + 0) K [(6, .int (zI v)), (5, .int (zI k)), (4, .int (zI i)), (3, .ref (F.1 129)), (2, .ref (F.1 110)), (1, .ref (F.1 0)), (0, .ref b)] [.int (zI k)] 233
  refine z_iload 1 hG dL_law_233 rfl ?_
  refine z_icmp_eq (tgt := 240) hG dL_law_235 (by decide) (by omega) (by omega) (fun _ => ?_) (fun q => absurd rfl q)
  refine z_iload 1 hG dL_law_240 rfl ?_
  refine z_if_ne (tgt := 257) hG dL_law_242 (by decide) (by omega) (fun q => ?_) (fun q => ?_)
  · refine z_goto (tgt := 1759) hG dL_law_257 (by decide) ?_
    refine z_perm (lv' := [(4, .int (zI i)), (3, .ref (F.1 129)), (2, .ref (F.1 110)), (1, .ref (F.1 0)), (0, .ref b)]) [2, 3, 4, 5, 6] rfl ?_
    exact kk _ hI hrK
  · refine z_aload_n 3 hG dL_law_245 rfl rfl ?_
    refine z_iconst 0 hG dL_law_246 ?_
    refine z_lald (v := v) hG (zltL hL (by decide)) (zl129 hL) (by decide) (by decide) (h1 q) dL_law_247 ?_
    refine z_iload 0 hG dL_law_248 rfl ?_
    refine z_i2l hG dL_law_250 hv ?_
    refine z_lcmpe hG dL_law_251 ?_
    refine z_if_eq (tgt := 257) hG dL_law_252 (by decide) (by decide) (fun _ => ?_) (fun q9 => absurd rfl q9)
    refine z_goto (tgt := 1759) hG dL_law_257 (by decide) ?_
    refine z_perm (lv' := [(4, .int (zI i)), (3, .ref (F.1 129)), (2, .ref (F.1 110)), (1, .ref (F.1 0)), (0, .ref b)]) [2, 3, 4, 5, 6] rfl ?_
    exact kk _ hI hrK
set_option maxRecDepth 100000 in
set_option maxHeartbeats 8000000 in
theorem w_L_store {G : zCx} {F : zFr} {I : zStore} {cells slots b L : Nat} {xs : Nat → Int32} {i : Int} {rmG : Room} {Inv : zStore → Prop} (hG : zOK G "LineLearnerLaw" cL_law 9) (hS0 : zScr G b L xs) (hR : zRoom G rmG) (hfr : 12 ≤ rmG.frames) (hlo : 428 ≤ rmG.locals) (hce : cells + 4 ≤ rmG.cells) (hsl : slots + 1400 ≤ rmG.slots) (hL : zLayL F) (hL2 : L ≤ 2048) (hi : 0 ≤ i ∧ i + 4 ≤ L)
    (hW : ∀ (l : Launch) (D : va_G) (cs : Nat → ClassId), l.stackTraces = false → zMh l yL_store cL_store 3 (some .int) [(0, 8, 11, 15)] rm_L_store D cs F I [.ref (F.1 0), .ref (F.1 129)] (fun r J => ∃ k : Int, r = some (.int (zI k)) ∧ (0 ≤ k ∧ k ≤ 2) ∧ zPs yX4_store cX4_store 5 (some .int) rm_X4_store F [] false Inv k J))
    (kk : ∀ K, Inv K → zRg K → zW G F (cells + 1 + 0) (slots + 6 + 0) K [(4, .int (zI i)), (3, .ref (F.1 129)), (2, .ref (F.1 110)), (1, .ref (F.1 0)), (0, .ref b)] [] 1759) : zW G F cells slots I [(4, .int (zI i)), (3, .ref (F.1 129)), (2, .ref (F.1 110)), (1, .ref (F.1 0)), (0, .ref b)] [] 260 := by
  refine z_aload_n 3 hG dL_law_260 rfl rfl ?_
  refine z_aload_n 1 hG dL_law_261 rfl rfl ?_
  refine z_callSH [.ref (F.1 0), .ref (F.1 129)] hG hR hW hd_L_store kw381 kw382 (by show 8 ≤ _; omega) (by show 137 ≤ _; omega) (by show cells + 1 ≤ _; omega) (by show slots + 6 ≤ _; omega) rfl rfl (Nat.le_of_ble_eq_true rfl) dL_law_262 (fun r I1 hq => ?_)
  obtain ⟨k, rfl, hk, post, hM, hp⟩ := hq
  show zW G F (cells + 1) (slots + 6) I1 [(4, .int (zI i)), (3, .ref (F.1 129)), (2, .ref (F.1 110)), (1, .ref (F.1 0)), (0, .ref b)] [.int (zI k)] 265
  refine z_istore (lv' := [(5, .int (zI k)), (4, .int (zI i)), (3, .ref (F.1 129)), (2, .ref (F.1 110)), (1, .ref (F.1 0)), (0, .ref b)]) hG dL_law_265 (by decide) rfl ?_
  refine z_aload_n 3 hG dL_law_267 rfl rfl ?_
  refine z_callV [] hG hR hM hd_X4_store kw768 kw769 kw770 rfl (zltL hL (by decide)) (zl110 hL.m) (by show 2 ≤ _; omega) (by show 45 ≤ _; omega) (by show cells + 1 + 0 ≤ _; omega) (by show slots + 6 + 0 ≤ _; omega) rfl rfl (Nat.le_of_ble_eq_true rfl) dL_law_268 (fun r K hq => ?_)
  obtain ⟨v, rfl, hv, hb, h0, h1, hrK, hI⟩ := hp r K hq
  show zW G F (cells + 1 + 0) (slots + 6 + 0) K [(5, .int (zI k)), (4, .int (zI i)), (3, .ref (F.1 129)), (2, .ref (F.1 110)), (1, .ref (F.1 0)), (0, .ref b)] [.int (zI v)] 271
  refine z_istore (lv' := [(6, .int (zI v)), (5, .int (zI k)), (4, .int (zI i)), (3, .ref (F.1 129)), (2, .ref (F.1 110)), (1, .ref (F.1 0)), (0, .ref b)]) hG dL_law_271 (by decide) rfl ?_
  refine z_aload_n 4 hG dL_law_273 rfl rfl ?_
  refine z_callV [] hG hR (c_X4_thrown hL.m hrK) hd_X4_thrown kw759 kw760 kw761 rfl (zltL hL (by decide)) (zl110 hL.m) (by show 1 ≤ _; omega) (by show 20 ≤ _; omega) (by show cells + 1 + 0 ≤ _; omega) (by show slots + 6 + 0 ≤ _; omega) rfl rfl (Nat.le_of_ble_eq_true rfl) dL_law_274 (fun r K2 hq => ?_)
  rw [hq.1, hq.2, h0]
  show zW G F (cells + 1 + 0) (slots + 6 + 0) K [(6, .int (zI v)), (5, .int (zI k)), (4, .int (zI i)), (3, .ref (F.1 129)), (2, .ref (F.1 110)), (1, .ref (F.1 0)), (0, .ref b)] [.int (zI k)] 277
  refine z_iload 1 hG dL_law_277 rfl ?_
  refine z_icmp_eq (tgt := 284) hG dL_law_279 (by decide) (by omega) (by omega) (fun _ => ?_) (fun q => absurd rfl q)
  refine z_iload 1 hG dL_law_284 rfl ?_
  refine z_if_ne (tgt := 301) hG dL_law_286 (by decide) (by omega) (fun q => ?_) (fun q => ?_)
  · refine z_goto (tgt := 1759) hG dL_law_301 (by decide) ?_
    refine z_perm (lv' := [(4, .int (zI i)), (3, .ref (F.1 129)), (2, .ref (F.1 110)), (1, .ref (F.1 0)), (0, .ref b)]) [2, 3, 4, 5, 6] rfl ?_
    exact kk _ hI hrK
  · refine z_aload_n 3 hG dL_law_289 rfl rfl ?_
    refine z_iconst 0 hG dL_law_290 ?_
    refine z_lald (v := v) hG (zltL hL (by decide)) (zl129 hL) (by decide) (by decide) (h1 q) dL_law_291 ?_
    refine z_iload 0 hG dL_law_292 rfl ?_
    refine z_i2l hG dL_law_294 hv ?_
    refine z_lcmpe hG dL_law_295 ?_
    refine z_if_eq (tgt := 301) hG dL_law_296 (by decide) (by decide) (fun _ => ?_) (fun q9 => absurd rfl q9)
    refine z_goto (tgt := 1759) hG dL_law_301 (by decide) ?_
    refine z_perm (lv' := [(4, .int (zI i)), (3, .ref (F.1 129)), (2, .ref (F.1 110)), (1, .ref (F.1 0)), (0, .ref b)]) [2, 3, 4, 5, 6] rfl ?_
    exact kk _ hI hrK
set_option maxRecDepth 100000 in
set_option maxHeartbeats 8000000 in
theorem w_L_tokenCount {G : zCx} {F : zFr} {I : zStore} {cells slots b L : Nat} {xs : Nat → Int32} {i : Int} {rmG : Room} {Inv : zStore → Prop} (hG : zOK G "LineLearnerLaw" cL_law 9) (hS0 : zScr G b L xs) (hR : zRoom G rmG) (hfr : 12 ≤ rmG.frames) (hlo : 428 ≤ rmG.locals) (hce : cells + 4 ≤ rmG.cells) (hsl : slots + 1400 ≤ rmG.slots) (hL : zLayL F) (hL2 : L ≤ 2048) (hi : 0 ≤ i ∧ i + 4 ≤ L)
    (hW : ∀ (l : Launch) (D : va_G) (cs : Nat → ClassId), l.stackTraces = false → zMh l yL_tokenCount cL_tokenCount 4 (some .int) [(0, 9, 12, 25)] rm_L_tokenCount D cs F I [.ref (F.1 0), .int (zI (zsc xs (i + 1))), .ref (F.1 129)] (fun r J => ∃ k : Int, r = some (.int (zI k)) ∧ (0 ≤ k ∧ k ≤ 2) ∧ zPs yX4_tokenCount cX4_tokenCount 2 (some .int) rm_X4_tokenCount F [.int (zI (zsc xs (i + 1)))] false Inv k J))
    (kk : ∀ K, Inv K → zRg K → zW G F (cells + 1 + 0) (slots + 6 + 0) K [(4, .int (zI i)), (3, .ref (F.1 129)), (2, .ref (F.1 110)), (1, .ref (F.1 0)), (0, .ref b)] [] 1759) : zW G F cells slots I [(4, .int (zI i)), (3, .ref (F.1 129)), (2, .ref (F.1 110)), (1, .ref (F.1 0)), (0, .ref b)] [] 317 := by
  refine z_aload_n 3 hG dL_law_317 rfl rfl ?_
  refine z_aload_n 4 hG dL_law_318 rfl rfl ?_
  refine z_iload 0 hG dL_law_319 rfl ?_
  refine z_iconst 1 hG dL_law_321 ?_
  refine z_iadd hG dL_law_322 ?_
  refine z_sal hG hS0 hL2 (by omega) dL_law_323 ?_
  refine z_aload_n 1 hG dL_law_324 rfl rfl ?_
  refine z_callSH [.ref (F.1 0), .int (zI (zsc xs (i + 1))), .ref (F.1 129)] hG hR hW hd_L_tokenCount kw414 kw415 (by show 9 ≤ _; omega) (by show 147 ≤ _; omega) (by show cells + 1 ≤ _; omega) (by show slots + 6 ≤ _; omega) rfl rfl (Nat.le_of_ble_eq_true rfl) dL_law_325 (fun r I1 hq => ?_)
  obtain ⟨k, rfl, hk, post, hM, hp⟩ := hq
  show zW G F (cells + 1) (slots + 6) I1 [(4, .int (zI i)), (3, .ref (F.1 129)), (2, .ref (F.1 110)), (1, .ref (F.1 0)), (0, .ref b)] [.int (zI k)] 328
  refine z_istore (lv' := [(5, .int (zI k)), (4, .int (zI i)), (3, .ref (F.1 129)), (2, .ref (F.1 110)), (1, .ref (F.1 0)), (0, .ref b)]) hG dL_law_328 (by decide) rfl ?_
  refine z_aload_n 3 hG dL_law_330 rfl rfl ?_
  refine z_aload_n 5 hG dL_law_331 rfl rfl ?_
  refine z_iload 1 hG dL_law_332 rfl ?_
  refine z_iconst 1 hG dL_law_334 ?_
  refine z_iadd hG dL_law_335 ?_
  refine z_sal hG hS0 hL2 (by omega) dL_law_336 ?_
  refine z_callV [.int (zI (zsc xs (i + 1)))] hG hR hM hd_X4_tokenCount kw783 kw784 kw785 rfl (zltL hL (by decide)) (zl110 hL.m) (by show 2 ≤ _; omega) (by show 42 ≤ _; omega) (by show cells + 1 + 0 ≤ _; omega) (by show slots + 6 + 0 ≤ _; omega) rfl rfl (Nat.le_of_ble_eq_true rfl) dL_law_337 (fun r K hq => ?_)
  obtain ⟨v, rfl, hv, hb, h0, h1, hrK, hI⟩ := hp r K hq
  show zW G F (cells + 1 + 0) (slots + 6 + 0) K [(5, .int (zI k)), (4, .int (zI i)), (3, .ref (F.1 129)), (2, .ref (F.1 110)), (1, .ref (F.1 0)), (0, .ref b)] [.int (zI v)] 340
  refine z_istore (lv' := [(6, .int (zI v)), (5, .int (zI k)), (4, .int (zI i)), (3, .ref (F.1 129)), (2, .ref (F.1 110)), (1, .ref (F.1 0)), (0, .ref b)]) hG dL_law_340 (by decide) rfl ?_
  refine z_aload_n 4 hG dL_law_342 rfl rfl ?_
  refine z_callV [] hG hR (c_X4_thrown hL.m hrK) hd_X4_thrown kw759 kw760 kw761 rfl (zltL hL (by decide)) (zl110 hL.m) (by show 1 ≤ _; omega) (by show 20 ≤ _; omega) (by show cells + 1 + 0 ≤ _; omega) (by show slots + 6 + 0 ≤ _; omega) rfl rfl (Nat.le_of_ble_eq_true rfl) dL_law_343 (fun r K2 hq => ?_)
  rw [hq.1, hq.2, h0]
  show zW G F (cells + 1 + 0) (slots + 6 + 0) K [(6, .int (zI v)), (5, .int (zI k)), (4, .int (zI i)), (3, .ref (F.1 129)), (2, .ref (F.1 110)), (1, .ref (F.1 0)), (0, .ref b)] [.int (zI k)] 346
  refine z_iload 1 hG dL_law_346 rfl ?_
  refine z_icmp_eq (tgt := 353) hG dL_law_348 (by decide) (by omega) (by omega) (fun _ => ?_) (fun q => absurd rfl q)
  refine z_iload 1 hG dL_law_353 rfl ?_
  refine z_if_ne (tgt := 370) hG dL_law_355 (by decide) (by omega) (fun q => ?_) (fun q => ?_)
  · refine z_goto (tgt := 1759) hG dL_law_370 (by decide) ?_
    refine z_perm (lv' := [(4, .int (zI i)), (3, .ref (F.1 129)), (2, .ref (F.1 110)), (1, .ref (F.1 0)), (0, .ref b)]) [2, 3, 4, 5, 6] rfl ?_
    exact kk _ hI hrK
  · refine z_aload_n 3 hG dL_law_358 rfl rfl ?_
    refine z_iconst 0 hG dL_law_359 ?_
    refine z_lald (v := v) hG (zltL hL (by decide)) (zl129 hL) (by decide) (by decide) (h1 q) dL_law_360 ?_
    refine z_iload 0 hG dL_law_361 rfl ?_
    refine z_i2l hG dL_law_363 hv ?_
    refine z_lcmpe hG dL_law_364 ?_
    refine z_if_eq (tgt := 370) hG dL_law_365 (by decide) (by decide) (fun _ => ?_) (fun q9 => absurd rfl q9)
    refine z_goto (tgt := 1759) hG dL_law_370 (by decide) ?_
    refine z_perm (lv' := [(4, .int (zI i)), (3, .ref (F.1 129)), (2, .ref (F.1 110)), (1, .ref (F.1 0)), (0, .ref b)]) [2, 3, 4, 5, 6] rfl ?_
    exact kk _ hI hrK
set_option maxRecDepth 100000 in
set_option maxHeartbeats 8000000 in
theorem w_L_tokenKind {G : zCx} {F : zFr} {I : zStore} {cells slots b L : Nat} {xs : Nat → Int32} {i : Int} {rmG : Room} {Inv : zStore → Prop} (hG : zOK G "LineLearnerLaw" cL_law 9) (hS0 : zScr G b L xs) (hR : zRoom G rmG) (hfr : 12 ≤ rmG.frames) (hlo : 428 ≤ rmG.locals) (hce : cells + 4 ≤ rmG.cells) (hsl : slots + 1400 ≤ rmG.slots) (hL : zLayL F) (hL2 : L ≤ 2048) (hi : 0 ≤ i ∧ i + 4 ≤ L)
    (hW : ∀ (l : Launch) (D : va_G) (cs : Nat → ClassId), l.stackTraces = false → zMh l yL_tokenKind cL_tokenKind 5 (some .int) [(0, 10, 13, 25)] rm_L_tokenKind D cs F I [.ref (F.1 0), .int (zI (zsc xs (i + 1))), .int (zI (zsc xs (i + 2))), .ref (F.1 129)] (fun r J => ∃ k : Int, r = some (.int (zI k)) ∧ (0 ≤ k ∧ k ≤ 2) ∧ zPs yX4_tokenKind cX4_tokenKind 3 (some .int) rm_X4_tokenKind F [.int (zI (zsc xs (i + 1))), .int (zI (zsc xs (i + 2)))] false Inv k J))
    (kk : ∀ K, Inv K → zRg K → zW G F (cells + 2 + 0) (slots + 12 + 0) K [(4, .int (zI i)), (3, .ref (F.1 129)), (2, .ref (F.1 110)), (1, .ref (F.1 0)), (0, .ref b)] [] 1759) : zW G F cells slots I [(4, .int (zI i)), (3, .ref (F.1 129)), (2, .ref (F.1 110)), (1, .ref (F.1 0)), (0, .ref b)] [] 373 := by
  refine z_aload_n 3 hG dL_law_373 rfl rfl ?_
  refine z_aload_n 4 hG dL_law_374 rfl rfl ?_
  refine z_iload 0 hG dL_law_375 rfl ?_
  refine z_iconst 1 hG dL_law_377 ?_
  refine z_iadd hG dL_law_378 ?_
  refine z_sal hG hS0 hL2 (by omega) dL_law_379 ?_
  refine z_aload_n 4 hG dL_law_380 rfl rfl ?_
  refine z_iload 0 hG dL_law_381 rfl ?_
  refine z_iconst 2 hG dL_law_383 ?_
  refine z_iadd hG dL_law_384 ?_
  refine z_sal hG hS0 hL2 (by omega) dL_law_385 ?_
  refine z_aload_n 1 hG dL_law_386 rfl rfl ?_
  refine z_callSH [.ref (F.1 0), .int (zI (zsc xs (i + 1))), .int (zI (zsc xs (i + 2))), .ref (F.1 129)] hG hR hW hd_L_tokenKind kw442 kw443 (by show 10 ≤ _; omega) (by show 171 ≤ _; omega) (by show cells + 2 ≤ _; omega) (by show slots + 12 ≤ _; omega) rfl rfl (Nat.le_of_ble_eq_true rfl) dL_law_387 (fun r I1 hq => ?_)
  obtain ⟨k, rfl, hk, post, hM, hp⟩ := hq
  show zW G F (cells + 2) (slots + 12) I1 [(4, .int (zI i)), (3, .ref (F.1 129)), (2, .ref (F.1 110)), (1, .ref (F.1 0)), (0, .ref b)] [.int (zI k)] 390
  refine z_istore (lv' := [(5, .int (zI k)), (4, .int (zI i)), (3, .ref (F.1 129)), (2, .ref (F.1 110)), (1, .ref (F.1 0)), (0, .ref b)]) hG dL_law_390 (by decide) rfl ?_
  refine z_aload_n 3 hG dL_law_392 rfl rfl ?_
  refine z_aload_n 5 hG dL_law_393 rfl rfl ?_
  refine z_iload 1 hG dL_law_394 rfl ?_
  refine z_iconst 1 hG dL_law_396 ?_
  refine z_iadd hG dL_law_397 ?_
  refine z_sal hG hS0 hL2 (by omega) dL_law_398 ?_
  refine z_aload_n 5 hG dL_law_399 rfl rfl ?_
  refine z_iload 1 hG dL_law_400 rfl ?_
  refine z_iconst 2 hG dL_law_402 ?_
  refine z_iadd hG dL_law_403 ?_
  refine z_sal hG hS0 hL2 (by omega) dL_law_404 ?_
  refine z_callV [.int (zI (zsc xs (i + 1))), .int (zI (zsc xs (i + 2)))] hG hR hM hd_X4_tokenKind kw791 kw792 kw793 rfl (zltL hL (by decide)) (zl110 hL.m) (by show 3 ≤ _; omega) (by show 65 ≤ _; omega) (by show cells + 2 + 0 ≤ _; omega) (by show slots + 12 + 0 ≤ _; omega) rfl rfl (Nat.le_of_ble_eq_true rfl) dL_law_405 (fun r K hq => ?_)
  obtain ⟨v, rfl, hv, hb, h0, h1, hrK, hI⟩ := hp r K hq
  show zW G F (cells + 2 + 0) (slots + 12 + 0) K [(5, .int (zI k)), (4, .int (zI i)), (3, .ref (F.1 129)), (2, .ref (F.1 110)), (1, .ref (F.1 0)), (0, .ref b)] [.int (zI v)] 408
  refine z_istore (lv' := [(6, .int (zI v)), (5, .int (zI k)), (4, .int (zI i)), (3, .ref (F.1 129)), (2, .ref (F.1 110)), (1, .ref (F.1 0)), (0, .ref b)]) hG dL_law_408 (by decide) rfl ?_
  refine z_aload_n 4 hG dL_law_410 rfl rfl ?_
  refine z_callV [] hG hR (c_X4_thrown hL.m hrK) hd_X4_thrown kw759 kw760 kw761 rfl (zltL hL (by decide)) (zl110 hL.m) (by show 1 ≤ _; omega) (by show 20 ≤ _; omega) (by show cells + 2 + 0 ≤ _; omega) (by show slots + 12 + 0 ≤ _; omega) rfl rfl (Nat.le_of_ble_eq_true rfl) dL_law_411 (fun r K2 hq => ?_)
  rw [hq.1, hq.2, h0]
  show zW G F (cells + 2 + 0) (slots + 12 + 0) K [(6, .int (zI v)), (5, .int (zI k)), (4, .int (zI i)), (3, .ref (F.1 129)), (2, .ref (F.1 110)), (1, .ref (F.1 0)), (0, .ref b)] [.int (zI k)] 414
  refine z_iload 1 hG dL_law_414 rfl ?_
  refine z_icmp_eq (tgt := 421) hG dL_law_416 (by decide) (by omega) (by omega) (fun _ => ?_) (fun q => absurd rfl q)
  refine z_iload 1 hG dL_law_421 rfl ?_
  refine z_if_ne (tgt := 438) hG dL_law_423 (by decide) (by omega) (fun q => ?_) (fun q => ?_)
  · refine z_goto (tgt := 1759) hG dL_law_438 (by decide) ?_
    refine z_perm (lv' := [(4, .int (zI i)), (3, .ref (F.1 129)), (2, .ref (F.1 110)), (1, .ref (F.1 0)), (0, .ref b)]) [2, 3, 4, 5, 6] rfl ?_
    exact kk _ hI hrK
  · refine z_aload_n 3 hG dL_law_426 rfl rfl ?_
    refine z_iconst 0 hG dL_law_427 ?_
    refine z_lald (v := v) hG (zltL hL (by decide)) (zl129 hL) (by decide) (by decide) (h1 q) dL_law_428 ?_
    refine z_iload 0 hG dL_law_429 rfl ?_
    refine z_i2l hG dL_law_431 hv ?_
    refine z_lcmpe hG dL_law_432 ?_
    refine z_if_eq (tgt := 438) hG dL_law_433 (by decide) (by decide) (fun _ => ?_) (fun q9 => absurd rfl q9)
    refine z_goto (tgt := 1759) hG dL_law_438 (by decide) ?_
    refine z_perm (lv' := [(4, .int (zI i)), (3, .ref (F.1 129)), (2, .ref (F.1 110)), (1, .ref (F.1 0)), (0, .ref b)]) [2, 3, 4, 5, 6] rfl ?_
    exact kk _ hI hrK
set_option maxRecDepth 100000 in
set_option maxHeartbeats 8000000 in
theorem w_L_tokenStart {G : zCx} {F : zFr} {I : zStore} {cells slots b L : Nat} {xs : Nat → Int32} {i : Int} {rmG : Room} {Inv : zStore → Prop} (hG : zOK G "LineLearnerLaw" cL_law 9) (hS0 : zScr G b L xs) (hR : zRoom G rmG) (hfr : 12 ≤ rmG.frames) (hlo : 428 ≤ rmG.locals) (hce : cells + 4 ≤ rmG.cells) (hsl : slots + 1400 ≤ rmG.slots) (hL : zLayL F) (hL2 : L ≤ 2048) (hi : 0 ≤ i ∧ i + 4 ≤ L)
    (hW : ∀ (l : Launch) (D : va_G) (cs : Nat → ClassId), l.stackTraces = false → zMh l yL_tokenStart cL_tokenStart 5 (some .int) [(0, 10, 13, 25)] rm_L_tokenStart D cs F I [.ref (F.1 0), .int (zI (zsc xs (i + 1))), .int (zI (zsc xs (i + 2))), .ref (F.1 129)] (fun r J => ∃ k : Int, r = some (.int (zI k)) ∧ (0 ≤ k ∧ k ≤ 2) ∧ zPs yX4_tokenStart cX4_tokenStart 3 (some .int) rm_X4_tokenStart F [.int (zI (zsc xs (i + 1))), .int (zI (zsc xs (i + 2)))] false Inv k J))
    (kk : ∀ K, Inv K → zRg K → zW G F (cells + 2 + 0) (slots + 12 + 0) K [(4, .int (zI i)), (3, .ref (F.1 129)), (2, .ref (F.1 110)), (1, .ref (F.1 0)), (0, .ref b)] [] 1759) : zW G F cells slots I [(4, .int (zI i)), (3, .ref (F.1 129)), (2, .ref (F.1 110)), (1, .ref (F.1 0)), (0, .ref b)] [] 441 := by
  refine z_aload_n 3 hG dL_law_441 rfl rfl ?_
  refine z_aload_n 4 hG dL_law_442 rfl rfl ?_
  refine z_iload 0 hG dL_law_443 rfl ?_
  refine z_iconst 1 hG dL_law_445 ?_
  refine z_iadd hG dL_law_446 ?_
  refine z_sal hG hS0 hL2 (by omega) dL_law_447 ?_
  refine z_aload_n 4 hG dL_law_448 rfl rfl ?_
  refine z_iload 0 hG dL_law_449 rfl ?_
  refine z_iconst 2 hG dL_law_451 ?_
  refine z_iadd hG dL_law_452 ?_
  refine z_sal hG hS0 hL2 (by omega) dL_law_453 ?_
  refine z_aload_n 1 hG dL_law_454 rfl rfl ?_
  refine z_callSH [.ref (F.1 0), .int (zI (zsc xs (i + 1))), .int (zI (zsc xs (i + 2))), .ref (F.1 129)] hG hR hW hd_L_tokenStart kw454 kw455 (by show 10 ≤ _; omega) (by show 171 ≤ _; omega) (by show cells + 2 ≤ _; omega) (by show slots + 12 ≤ _; omega) rfl rfl (Nat.le_of_ble_eq_true rfl) dL_law_455 (fun r I1 hq => ?_)
  obtain ⟨k, rfl, hk, post, hM, hp⟩ := hq
  show zW G F (cells + 2) (slots + 12) I1 [(4, .int (zI i)), (3, .ref (F.1 129)), (2, .ref (F.1 110)), (1, .ref (F.1 0)), (0, .ref b)] [.int (zI k)] 458
  refine z_istore (lv' := [(5, .int (zI k)), (4, .int (zI i)), (3, .ref (F.1 129)), (2, .ref (F.1 110)), (1, .ref (F.1 0)), (0, .ref b)]) hG dL_law_458 (by decide) rfl ?_
  refine z_aload_n 3 hG dL_law_460 rfl rfl ?_
  refine z_aload_n 5 hG dL_law_461 rfl rfl ?_
  refine z_iload 1 hG dL_law_462 rfl ?_
  refine z_iconst 1 hG dL_law_464 ?_
  refine z_iadd hG dL_law_465 ?_
  refine z_sal hG hS0 hL2 (by omega) dL_law_466 ?_
  refine z_aload_n 5 hG dL_law_467 rfl rfl ?_
  refine z_iload 1 hG dL_law_468 rfl ?_
  refine z_iconst 2 hG dL_law_470 ?_
  refine z_iadd hG dL_law_471 ?_
  refine z_sal hG hS0 hL2 (by omega) dL_law_472 ?_
  refine z_callV [.int (zI (zsc xs (i + 1))), .int (zI (zsc xs (i + 2)))] hG hR hM hd_X4_tokenStart kw799 kw800 kw801 rfl (zltL hL (by decide)) (zl110 hL.m) (by show 3 ≤ _; omega) (by show 65 ≤ _; omega) (by show cells + 2 + 0 ≤ _; omega) (by show slots + 12 + 0 ≤ _; omega) rfl rfl (Nat.le_of_ble_eq_true rfl) dL_law_473 (fun r K hq => ?_)
  obtain ⟨v, rfl, hv, hb, h0, h1, hrK, hI⟩ := hp r K hq
  show zW G F (cells + 2 + 0) (slots + 12 + 0) K [(5, .int (zI k)), (4, .int (zI i)), (3, .ref (F.1 129)), (2, .ref (F.1 110)), (1, .ref (F.1 0)), (0, .ref b)] [.int (zI v)] 476
  refine z_istore (lv' := [(6, .int (zI v)), (5, .int (zI k)), (4, .int (zI i)), (3, .ref (F.1 129)), (2, .ref (F.1 110)), (1, .ref (F.1 0)), (0, .ref b)]) hG dL_law_476 (by decide) rfl ?_
  refine z_aload_n 4 hG dL_law_478 rfl rfl ?_
  refine z_callV [] hG hR (c_X4_thrown hL.m hrK) hd_X4_thrown kw759 kw760 kw761 rfl (zltL hL (by decide)) (zl110 hL.m) (by show 1 ≤ _; omega) (by show 20 ≤ _; omega) (by show cells + 2 + 0 ≤ _; omega) (by show slots + 12 + 0 ≤ _; omega) rfl rfl (Nat.le_of_ble_eq_true rfl) dL_law_479 (fun r K2 hq => ?_)
  rw [hq.1, hq.2, h0]
  show zW G F (cells + 2 + 0) (slots + 12 + 0) K [(6, .int (zI v)), (5, .int (zI k)), (4, .int (zI i)), (3, .ref (F.1 129)), (2, .ref (F.1 110)), (1, .ref (F.1 0)), (0, .ref b)] [.int (zI k)] 482
  refine z_iload 1 hG dL_law_482 rfl ?_
  refine z_icmp_eq (tgt := 489) hG dL_law_484 (by decide) (by omega) (by omega) (fun _ => ?_) (fun q => absurd rfl q)
  refine z_iload 1 hG dL_law_489 rfl ?_
  refine z_if_ne (tgt := 506) hG dL_law_491 (by decide) (by omega) (fun q => ?_) (fun q => ?_)
  · refine z_goto (tgt := 1759) hG dL_law_506 (by decide) ?_
    refine z_perm (lv' := [(4, .int (zI i)), (3, .ref (F.1 129)), (2, .ref (F.1 110)), (1, .ref (F.1 0)), (0, .ref b)]) [2, 3, 4, 5, 6] rfl ?_
    exact kk _ hI hrK
  · refine z_aload_n 3 hG dL_law_494 rfl rfl ?_
    refine z_iconst 0 hG dL_law_495 ?_
    refine z_lald (v := v) hG (zltL hL (by decide)) (zl129 hL) (by decide) (by decide) (h1 q) dL_law_496 ?_
    refine z_iload 0 hG dL_law_497 rfl ?_
    refine z_i2l hG dL_law_499 hv ?_
    refine z_lcmpe hG dL_law_500 ?_
    refine z_if_eq (tgt := 506) hG dL_law_501 (by decide) (by decide) (fun _ => ?_) (fun q9 => absurd rfl q9)
    refine z_goto (tgt := 1759) hG dL_law_506 (by decide) ?_
    refine z_perm (lv' := [(4, .int (zI i)), (3, .ref (F.1 129)), (2, .ref (F.1 110)), (1, .ref (F.1 0)), (0, .ref b)]) [2, 3, 4, 5, 6] rfl ?_
    exact kk _ hI hrK
set_option maxRecDepth 100000 in
set_option maxHeartbeats 8000000 in
theorem w_L_sameAtFront {G : zCx} {F : zFr} {I : zStore} {cells slots b L : Nat} {xs : Nat → Int32} {i : Int} {rmG : Room} {Inv : zStore → Prop} (hG : zOK G "LineLearnerLaw" cL_law 9) (hS0 : zScr G b L xs) (hR : zRoom G rmG) (hfr : 12 ≤ rmG.frames) (hlo : 428 ≤ rmG.locals) (hce : cells + 4 ≤ rmG.cells) (hsl : slots + 1400 ≤ rmG.slots) (hL : zLayL F) (hL2 : L ≤ 2048) (hi : 0 ≤ i ∧ i + 4 ≤ L)
    (hW : ∀ (l : Launch) (D : va_G) (cs : Nat → ClassId), l.stackTraces = false → zMh l yL_sameAtFront cL_sameAtFront 5 (some .int) [(0, 10, 13, 25)] rm_L_sameAtFront D cs F I [.ref (F.1 0), .int (zI (zsc xs (i + 1))), .int (zI (zsc xs (i + 2))), .ref (F.1 129)] (fun r J => ∃ k : Int, r = some (.int (zI k)) ∧ (0 ≤ k ∧ k ≤ 2) ∧ zPs yX4_sameAtFront cX4_sameAtFront 4 (some .int) rm_X4_sameAtFront F [.int (zI (zsc xs (i + 1))), .int (zI (zsc xs (i + 2)))] false Inv k J))
    (kk : ∀ K, Inv K → zRg K → zW G F (cells + 2 + 0) (slots + 12 + 0) K [(4, .int (zI i)), (3, .ref (F.1 129)), (2, .ref (F.1 110)), (1, .ref (F.1 0)), (0, .ref b)] [] 1759) : zW G F cells slots I [(4, .int (zI i)), (3, .ref (F.1 129)), (2, .ref (F.1 110)), (1, .ref (F.1 0)), (0, .ref b)] [] 509 := by
  refine z_aload_n 3 hG dL_law_509 rfl rfl ?_
  refine z_aload_n 4 hG dL_law_510 rfl rfl ?_
  refine z_iload 0 hG dL_law_511 rfl ?_
  refine z_iconst 1 hG dL_law_513 ?_
  refine z_iadd hG dL_law_514 ?_
  refine z_sal hG hS0 hL2 (by omega) dL_law_515 ?_
  refine z_aload_n 4 hG dL_law_516 rfl rfl ?_
  refine z_iload 0 hG dL_law_517 rfl ?_
  refine z_iconst 2 hG dL_law_519 ?_
  refine z_iadd hG dL_law_520 ?_
  refine z_sal hG hS0 hL2 (by omega) dL_law_521 ?_
  refine z_aload_n 1 hG dL_law_522 rfl rfl ?_
  refine z_callSH [.ref (F.1 0), .int (zI (zsc xs (i + 1))), .int (zI (zsc xs (i + 2))), .ref (F.1 129)] hG hR hW hd_L_sameAtFront kw461 kw462 (by show 9 ≤ _; omega) (by show 151 ≤ _; omega) (by show cells + 2 ≤ _; omega) (by show slots + 12 ≤ _; omega) rfl rfl (Nat.le_of_ble_eq_true rfl) dL_law_523 (fun r I1 hq => ?_)
  obtain ⟨k, rfl, hk, post, hM, hp⟩ := hq
  show zW G F (cells + 2) (slots + 12) I1 [(4, .int (zI i)), (3, .ref (F.1 129)), (2, .ref (F.1 110)), (1, .ref (F.1 0)), (0, .ref b)] [.int (zI k)] 526
  refine z_istore (lv' := [(5, .int (zI k)), (4, .int (zI i)), (3, .ref (F.1 129)), (2, .ref (F.1 110)), (1, .ref (F.1 0)), (0, .ref b)]) hG dL_law_526 (by decide) rfl ?_
  refine z_aload_n 3 hG dL_law_528 rfl rfl ?_
  refine z_aload_n 5 hG dL_law_529 rfl rfl ?_
  refine z_iload 1 hG dL_law_530 rfl ?_
  refine z_iconst 1 hG dL_law_532 ?_
  refine z_iadd hG dL_law_533 ?_
  refine z_sal hG hS0 hL2 (by omega) dL_law_534 ?_
  refine z_aload_n 5 hG dL_law_535 rfl rfl ?_
  refine z_iload 1 hG dL_law_536 rfl ?_
  refine z_iconst 2 hG dL_law_538 ?_
  refine z_iadd hG dL_law_539 ?_
  refine z_sal hG hS0 hL2 (by omega) dL_law_540 ?_
  refine z_callV [.int (zI (zsc xs (i + 1))), .int (zI (zsc xs (i + 2)))] hG hR hM hd_X4_sameAtFront kw803 kw804 kw805 rfl (zltL hL (by decide)) (zl110 hL.m) (by show 2 ≤ _; omega) (by show 48 ≤ _; omega) (by show cells + 2 + 0 ≤ _; omega) (by show slots + 12 + 0 ≤ _; omega) rfl rfl (Nat.le_of_ble_eq_true rfl) dL_law_541 (fun r K hq => ?_)
  obtain ⟨v, rfl, hv, hb, h0, h1, hrK, hI⟩ := hp r K hq
  show zW G F (cells + 2 + 0) (slots + 12 + 0) K [(5, .int (zI k)), (4, .int (zI i)), (3, .ref (F.1 129)), (2, .ref (F.1 110)), (1, .ref (F.1 0)), (0, .ref b)] [.int (zI v)] 544
  refine z_istore (lv' := [(6, .int (zI v)), (5, .int (zI k)), (4, .int (zI i)), (3, .ref (F.1 129)), (2, .ref (F.1 110)), (1, .ref (F.1 0)), (0, .ref b)]) hG dL_law_544 (by decide) rfl ?_
  refine z_aload_n 4 hG dL_law_546 rfl rfl ?_
  refine z_callV [] hG hR (c_X4_thrown hL.m hrK) hd_X4_thrown kw759 kw760 kw761 rfl (zltL hL (by decide)) (zl110 hL.m) (by show 1 ≤ _; omega) (by show 20 ≤ _; omega) (by show cells + 2 + 0 ≤ _; omega) (by show slots + 12 + 0 ≤ _; omega) rfl rfl (Nat.le_of_ble_eq_true rfl) dL_law_547 (fun r K2 hq => ?_)
  rw [hq.1, hq.2, h0]
  show zW G F (cells + 2 + 0) (slots + 12 + 0) K [(6, .int (zI v)), (5, .int (zI k)), (4, .int (zI i)), (3, .ref (F.1 129)), (2, .ref (F.1 110)), (1, .ref (F.1 0)), (0, .ref b)] [.int (zI k)] 550
  refine z_iload 1 hG dL_law_550 rfl ?_
  refine z_icmp_eq (tgt := 557) hG dL_law_552 (by decide) (by omega) (by omega) (fun _ => ?_) (fun q => absurd rfl q)
  refine z_iload 1 hG dL_law_557 rfl ?_
  refine z_if_ne (tgt := 574) hG dL_law_559 (by decide) (by omega) (fun q => ?_) (fun q => ?_)
  · refine z_goto (tgt := 1759) hG dL_law_574 (by decide) ?_
    refine z_perm (lv' := [(4, .int (zI i)), (3, .ref (F.1 129)), (2, .ref (F.1 110)), (1, .ref (F.1 0)), (0, .ref b)]) [2, 3, 4, 5, 6] rfl ?_
    exact kk _ hI hrK
  · refine z_aload_n 3 hG dL_law_562 rfl rfl ?_
    refine z_iconst 0 hG dL_law_563 ?_
    refine z_lald (v := v) hG (zltL hL (by decide)) (zl129 hL) (by decide) (by decide) (h1 q) dL_law_564 ?_
    refine z_iload 0 hG dL_law_565 rfl ?_
    refine z_i2l hG dL_law_567 hv ?_
    refine z_lcmpe hG dL_law_568 ?_
    refine z_if_eq (tgt := 574) hG dL_law_569 (by decide) (by decide) (fun _ => ?_) (fun q9 => absurd rfl q9)
    refine z_goto (tgt := 1759) hG dL_law_574 (by decide) ?_
    refine z_perm (lv' := [(4, .int (zI i)), (3, .ref (F.1 129)), (2, .ref (F.1 110)), (1, .ref (F.1 0)), (0, .ref b)]) [2, 3, 4, 5, 6] rfl ?_
    exact kk _ hI hrK
set_option maxRecDepth 100000 in
set_option maxHeartbeats 8000000 in
theorem w_L_setCosts {G : zCx} {F : zFr} {I : zStore} {cells slots b L : Nat} {xs : Nat → Int32} {i : Int} {rmG : Room} {Inv : zStore → Prop} (hG : zOK G "LineLearnerLaw" cL_law 9) (hS0 : zScr G b L xs) (hR : zRoom G rmG) (hfr : 12 ≤ rmG.frames) (hlo : 428 ≤ rmG.locals) (hce : cells + 4 ≤ rmG.cells) (hsl : slots + 1400 ≤ rmG.slots) (hL : zLayL F) (hL2 : L ≤ 2048) (hi : 0 ≤ i ∧ i + 4 ≤ L)
    (hW : ∀ (l : Launch) (D : va_G) (cs : Nat → ClassId), l.stackTraces = false → zMh l yL_setCosts cL_setCosts 6 (some .int) [(0, 19, 22, 13)] rm_L_setCosts D cs F I [.ref (F.1 0), .int (zI (zsc xs (i + 1))), .int (zI (zsc xs (i + 2))), .int (zI (zsc xs (i + 3))), .ref (F.1 129)] (fun r J => ∃ k : Int, r = some (.int (zI k)) ∧ (0 ≤ k ∧ k ≤ 2) ∧ zPs yX4_setCosts cX4_setCosts 5 (some .boolean) rm_X4_setCosts F [.int (zI (zsc xs (i + 1))), .int (zI (zsc xs (i + 2))), .int (zI (zsc xs (i + 3)))] true Inv k J))
    (kk : ∀ K, Inv K → zRg K → zW G F (cells + 1 + 0) (slots + 6 + 0) K [(4, .int (zI i)), (3, .ref (F.1 129)), (2, .ref (F.1 110)), (1, .ref (F.1 0)), (0, .ref b)] [] 1759) : zW G F cells slots I [(4, .int (zI i)), (3, .ref (F.1 129)), (2, .ref (F.1 110)), (1, .ref (F.1 0)), (0, .ref b)] [] 577 := by
  refine z_aload_n 3 hG dL_law_577 rfl rfl ?_
  refine z_aload_n 4 hG dL_law_578 rfl rfl ?_
  refine z_iload 0 hG dL_law_579 rfl ?_
  refine z_iconst 1 hG dL_law_581 ?_
  refine z_iadd hG dL_law_582 ?_
  refine z_sal hG hS0 hL2 (by omega) dL_law_583 ?_
  refine z_aload_n 4 hG dL_law_584 rfl rfl ?_
  refine z_iload 0 hG dL_law_585 rfl ?_
  refine z_iconst 2 hG dL_law_587 ?_
  refine z_iadd hG dL_law_588 ?_
  refine z_sal hG hS0 hL2 (by omega) dL_law_589 ?_
  refine z_aload_n 4 hG dL_law_590 rfl rfl ?_
  refine z_iload 0 hG dL_law_591 rfl ?_
  refine z_iconst 3 hG dL_law_593 ?_
  refine z_iadd hG dL_law_594 ?_
  refine z_sal hG hS0 hL2 (by omega) dL_law_595 ?_
  refine z_aload_n 1 hG dL_law_596 rfl rfl ?_
  refine z_callSH [.ref (F.1 0), .int (zI (zsc xs (i + 1))), .int (zI (zsc xs (i + 2))), .int (zI (zsc xs (i + 3))), .ref (F.1 129)] hG hR hW hd_L_setCosts kw469 kw470 (by show 8 ≤ _; omega) (by show 130 ≤ _; omega) (by show cells + 1 ≤ _; omega) (by show slots + 6 ≤ _; omega) rfl rfl (Nat.le_of_ble_eq_true rfl) dL_law_597 (fun r I1 hq => ?_)
  obtain ⟨k, rfl, hk, post, hM, hp⟩ := hq
  show zW G F (cells + 1) (slots + 6) I1 [(4, .int (zI i)), (3, .ref (F.1 129)), (2, .ref (F.1 110)), (1, .ref (F.1 0)), (0, .ref b)] [.int (zI k)] 600
  refine z_istore (lv' := [(5, .int (zI k)), (4, .int (zI i)), (3, .ref (F.1 129)), (2, .ref (F.1 110)), (1, .ref (F.1 0)), (0, .ref b)]) hG dL_law_600 (by decide) rfl ?_
  refine z_aload_n 3 hG dL_law_602 rfl rfl ?_
  refine z_aload_n 5 hG dL_law_603 rfl rfl ?_
  refine z_iload 1 hG dL_law_604 rfl ?_
  refine z_iconst 1 hG dL_law_606 ?_
  refine z_iadd hG dL_law_607 ?_
  refine z_sal hG hS0 hL2 (by omega) dL_law_608 ?_
  refine z_aload_n 5 hG dL_law_609 rfl rfl ?_
  refine z_iload 1 hG dL_law_610 rfl ?_
  refine z_iconst 2 hG dL_law_612 ?_
  refine z_iadd hG dL_law_613 ?_
  refine z_sal hG hS0 hL2 (by omega) dL_law_614 ?_
  refine z_aload_n 5 hG dL_law_615 rfl rfl ?_
  refine z_iload 1 hG dL_law_616 rfl ?_
  refine z_iconst 3 hG dL_law_618 ?_
  refine z_iadd hG dL_law_619 ?_
  refine z_sal hG hS0 hL2 (by omega) dL_law_620 ?_
  refine z_callV [.int (zI (zsc xs (i + 1))), .int (zI (zsc xs (i + 2))), .int (zI (zsc xs (i + 3)))] hG hR hM hd_X4_setCosts kw811 kw812 kw813 rfl (zltL hL (by decide)) (zl110 hL.m) (by show 2 ≤ _; omega) (by show 45 ≤ _; omega) (by show cells + 1 + 0 ≤ _; omega) (by show slots + 6 + 0 ≤ _; omega) rfl rfl (Nat.le_of_ble_eq_true rfl) dL_law_621 (fun r K hq => ?_)
  obtain ⟨v, rfl, hv, hb, h0, h1, hrK, hI⟩ := hp r K hq
  show zW G F (cells + 1 + 0) (slots + 6 + 0) K [(5, .int (zI k)), (4, .int (zI i)), (3, .ref (F.1 129)), (2, .ref (F.1 110)), (1, .ref (F.1 0)), (0, .ref b)] [.int (zI v)] 624
  refine z_istore (lv' := [(6, .int (zI v)), (5, .int (zI k)), (4, .int (zI i)), (3, .ref (F.1 129)), (2, .ref (F.1 110)), (1, .ref (F.1 0)), (0, .ref b)]) hG dL_law_624 (by decide) rfl ?_
  refine z_aload_n 4 hG dL_law_626 rfl rfl ?_
  refine z_callV [] hG hR (c_X4_thrown hL.m hrK) hd_X4_thrown kw759 kw760 kw761 rfl (zltL hL (by decide)) (zl110 hL.m) (by show 1 ≤ _; omega) (by show 20 ≤ _; omega) (by show cells + 1 + 0 ≤ _; omega) (by show slots + 6 + 0 ≤ _; omega) rfl rfl (Nat.le_of_ble_eq_true rfl) dL_law_627 (fun r K2 hq => ?_)
  rw [hq.1, hq.2, h0]
  show zW G F (cells + 1 + 0) (slots + 6 + 0) K [(6, .int (zI v)), (5, .int (zI k)), (4, .int (zI i)), (3, .ref (F.1 129)), (2, .ref (F.1 110)), (1, .ref (F.1 0)), (0, .ref b)] [.int (zI k)] 630
  refine z_iload 1 hG dL_law_630 rfl ?_
  refine z_icmp_eq (tgt := 637) hG dL_law_632 (by decide) (by omega) (by omega) (fun _ => ?_) (fun q => absurd rfl q)
  refine z_iload 1 hG dL_law_637 rfl ?_
  refine z_if_ne (tgt := 661) hG dL_law_639 (by decide) (by omega) (fun q => ?_) (fun q => ?_)
  · refine z_goto (tgt := 1759) hG dL_law_661 (by decide) ?_
    refine z_perm (lv' := [(4, .int (zI i)), (3, .ref (F.1 129)), (2, .ref (F.1 110)), (1, .ref (F.1 0)), (0, .ref b)]) [2, 3, 4, 5, 6] rfl ?_
    exact kk _ hI hrK
  · refine z_aload_n 3 hG dL_law_642 rfl rfl ?_
    refine z_iconst 0 hG dL_law_643 ?_
    refine z_lald (v := v) hG (zltL hL (by decide)) (zl129 hL) (by decide) (by decide) (h1 q) dL_law_644 ?_
    refine z_iload 0 hG dL_law_645 rfl ?_
    refine z_if_eq (tgt := 654) hG dL_law_647 (by decide) hv (fun e => ?_) (fun e => ?_)
    · rw [e]
      refine z_lconst 0 hG dL_law_654 rfl ?_
      refine z_lcmpe hG dL_law_655 ?_
      refine z_if_eq (tgt := 661) hG dL_law_656 (by decide) (by decide) (fun _ => ?_) (fun q9 => absurd rfl q9)
      refine z_goto (tgt := 1759) hG dL_law_661 (by decide) ?_
      refine z_perm (lv' := [(4, .int (zI i)), (3, .ref (F.1 129)), (2, .ref (F.1 110)), (1, .ref (F.1 0)), (0, .ref b)]) [2, 3, 4, 5, 6] rfl ?_
      exact kk _ hI hrK
    · have e1 : v = 1 := by
        have := hb rfl
        omega
      rw [e1]
      refine z_lconst 1 hG dL_law_650 rfl ?_
      refine z_goto (tgt := 655) hG dL_law_651 (by decide) ?_
      refine z_lcmpe hG dL_law_655 ?_
      refine z_if_eq (tgt := 661) hG dL_law_656 (by decide) (by decide) (fun _ => ?_) (fun q9 => absurd rfl q9)
      refine z_goto (tgt := 1759) hG dL_law_661 (by decide) ?_
      refine z_perm (lv' := [(4, .int (zI i)), (3, .ref (F.1 129)), (2, .ref (F.1 110)), (1, .ref (F.1 0)), (0, .ref b)]) [2, 3, 4, 5, 6] rfl ?_
      exact kk _ hI hrK
set_option maxRecDepth 100000 in
set_option maxHeartbeats 8000000 in
theorem w_L_merge {G : zCx} {F : zFr} {I : zStore} {cells slots b L : Nat} {xs : Nat → Int32} {i : Int} {rmG : Room} {Inv : zStore → Prop} (hG : zOK G "LineLearnerLaw" cL_law 9) (hS0 : zScr G b L xs) (hR : zRoom G rmG) (hfr : 12 ≤ rmG.frames) (hlo : 428 ≤ rmG.locals) (hce : cells + 4 ≤ rmG.cells) (hsl : slots + 1400 ≤ rmG.slots) (hL : zLayL F) (hL2 : L ≤ 2048) (hi : 0 ≤ i ∧ i + 4 ≤ L)
    (hW : ∀ (l : Launch) (D : va_G) (cs : Nat → ClassId), l.stackTraces = false → zMh l yL_merge cL_merge 4 (some .int) [(0, 9, 12, 25), (0, 9, 15, 15)] rm_L_merge D cs F I [.ref (F.1 0), .int (zI (zsc xs (i + 1))), .ref (F.1 129)] (fun r J => ∃ k : Int, r = some (.int (zI k)) ∧ (0 ≤ k ∧ k ≤ 2) ∧ zPs yX4_merge cX4_merge 3 (some .int) rm_X4_merge F [.int (zI (zsc xs (i + 1)))] false Inv k J))
    (kk : ∀ K, Inv K → zRg K → zW G F (cells + 2 + 0) (slots + 12 + 0) K [(4, .int (zI i)), (3, .ref (F.1 129)), (2, .ref (F.1 110)), (1, .ref (F.1 0)), (0, .ref b)] [] 1759) : zW G F cells slots I [(4, .int (zI i)), (3, .ref (F.1 129)), (2, .ref (F.1 110)), (1, .ref (F.1 0)), (0, .ref b)] [] 664 := by
  refine z_aload_n 3 hG dL_law_664 rfl rfl ?_
  refine z_aload_n 4 hG dL_law_665 rfl rfl ?_
  refine z_iload 0 hG dL_law_666 rfl ?_
  refine z_iconst 1 hG dL_law_668 ?_
  refine z_iadd hG dL_law_669 ?_
  refine z_sal hG hS0 hL2 (by omega) dL_law_670 ?_
  refine z_aload_n 1 hG dL_law_671 rfl rfl ?_
  refine z_callSH [.ref (F.1 0), .int (zI (zsc xs (i + 1))), .ref (F.1 129)] hG hR hW hd_L_merge kw484 kw485 (by show 9 ≤ _; omega) (by show 172 ≤ _; omega) (by show cells + 2 ≤ _; omega) (by show slots + 12 ≤ _; omega) rfl rfl (Nat.le_of_ble_eq_true rfl) dL_law_672 (fun r I1 hq => ?_)
  obtain ⟨k, rfl, hk, post, hM, hp⟩ := hq
  show zW G F (cells + 2) (slots + 12) I1 [(4, .int (zI i)), (3, .ref (F.1 129)), (2, .ref (F.1 110)), (1, .ref (F.1 0)), (0, .ref b)] [.int (zI k)] 675
  refine z_istore (lv' := [(5, .int (zI k)), (4, .int (zI i)), (3, .ref (F.1 129)), (2, .ref (F.1 110)), (1, .ref (F.1 0)), (0, .ref b)]) hG dL_law_675 (by decide) rfl ?_
  refine z_aload_n 3 hG dL_law_677 rfl rfl ?_
  refine z_aload_n 5 hG dL_law_678 rfl rfl ?_
  refine z_iload 1 hG dL_law_679 rfl ?_
  refine z_iconst 1 hG dL_law_681 ?_
  refine z_iadd hG dL_law_682 ?_
  refine z_sal hG hS0 hL2 (by omega) dL_law_683 ?_
  refine z_callV [.int (zI (zsc xs (i + 1)))] hG hR hM hd_X4_merge kw817 kw818 kw819 rfl (zltL hL (by decide)) (zl110 hL.m) (by show 7 ≤ _; omega) (by show 166 ≤ _; omega) (by show cells + 2 + 0 ≤ _; omega) (by show slots + 12 + 0 ≤ _; omega) rfl rfl (Nat.le_of_ble_eq_true rfl) dL_law_684 (fun r K hq => ?_)
  obtain ⟨v, rfl, hv, hb, h0, h1, hrK, hI⟩ := hp r K hq
  show zW G F (cells + 2 + 0) (slots + 12 + 0) K [(5, .int (zI k)), (4, .int (zI i)), (3, .ref (F.1 129)), (2, .ref (F.1 110)), (1, .ref (F.1 0)), (0, .ref b)] [.int (zI v)] 687
  refine z_istore (lv' := [(6, .int (zI v)), (5, .int (zI k)), (4, .int (zI i)), (3, .ref (F.1 129)), (2, .ref (F.1 110)), (1, .ref (F.1 0)), (0, .ref b)]) hG dL_law_687 (by decide) rfl ?_
  refine z_aload_n 4 hG dL_law_689 rfl rfl ?_
  refine z_callV [] hG hR (c_X4_thrown hL.m hrK) hd_X4_thrown kw759 kw760 kw761 rfl (zltL hL (by decide)) (zl110 hL.m) (by show 1 ≤ _; omega) (by show 20 ≤ _; omega) (by show cells + 2 + 0 ≤ _; omega) (by show slots + 12 + 0 ≤ _; omega) rfl rfl (Nat.le_of_ble_eq_true rfl) dL_law_690 (fun r K2 hq => ?_)
  rw [hq.1, hq.2, h0]
  show zW G F (cells + 2 + 0) (slots + 12 + 0) K [(6, .int (zI v)), (5, .int (zI k)), (4, .int (zI i)), (3, .ref (F.1 129)), (2, .ref (F.1 110)), (1, .ref (F.1 0)), (0, .ref b)] [.int (zI k)] 693
  refine z_iload 1 hG dL_law_693 rfl ?_
  refine z_icmp_eq (tgt := 700) hG dL_law_695 (by decide) (by omega) (by omega) (fun _ => ?_) (fun q => absurd rfl q)
  refine z_iload 1 hG dL_law_700 rfl ?_
  refine z_if_ne (tgt := 717) hG dL_law_702 (by decide) (by omega) (fun q => ?_) (fun q => ?_)
  · refine z_goto (tgt := 1759) hG dL_law_717 (by decide) ?_
    refine z_perm (lv' := [(4, .int (zI i)), (3, .ref (F.1 129)), (2, .ref (F.1 110)), (1, .ref (F.1 0)), (0, .ref b)]) [2, 3, 4, 5, 6] rfl ?_
    exact kk _ hI hrK
  · refine z_aload_n 3 hG dL_law_705 rfl rfl ?_
    refine z_iconst 0 hG dL_law_706 ?_
    refine z_lald (v := v) hG (zltL hL (by decide)) (zl129 hL) (by decide) (by decide) (h1 q) dL_law_707 ?_
    refine z_iload 0 hG dL_law_708 rfl ?_
    refine z_i2l hG dL_law_710 hv ?_
    refine z_lcmpe hG dL_law_711 ?_
    refine z_if_eq (tgt := 717) hG dL_law_712 (by decide) (by decide) (fun _ => ?_) (fun q9 => absurd rfl q9)
    refine z_goto (tgt := 1759) hG dL_law_717 (by decide) ?_
    refine z_perm (lv' := [(4, .int (zI i)), (3, .ref (F.1 129)), (2, .ref (F.1 110)), (1, .ref (F.1 0)), (0, .ref b)]) [2, 3, 4, 5, 6] rfl ?_
    exact kk _ hI hrK
set_option maxRecDepth 100000 in
set_option maxHeartbeats 8000000 in
theorem w_L_isMerged {G : zCx} {F : zFr} {I : zStore} {cells slots b L : Nat} {xs : Nat → Int32} {i : Int} {rmG : Room} {Inv : zStore → Prop} (hG : zOK G "LineLearnerLaw" cL_law 9) (hS0 : zScr G b L xs) (hR : zRoom G rmG) (hfr : 12 ≤ rmG.frames) (hlo : 428 ≤ rmG.locals) (hce : cells + 4 ≤ rmG.cells) (hsl : slots + 1400 ≤ rmG.slots) (hL : zLayL F) (hL2 : L ≤ 2048) (hi : 0 ≤ i ∧ i + 4 ≤ L)
    (hW : ∀ (l : Launch) (D : va_G) (cs : Nat → ClassId), l.stackTraces = false → zMh l yL_isMerged cL_isMerged 4 (some .int) [(0, 16, 19, 25)] rm_L_isMerged D cs F I [.ref (F.1 0), .int (zI (zsc xs (i + 1))), .ref (F.1 129)] (fun r J => ∃ k : Int, r = some (.int (zI k)) ∧ (0 ≤ k ∧ k ≤ 2) ∧ zPs yX4_isMerged cX4_isMerged 2 (some .boolean) rm_X4_isMerged F [.int (zI (zsc xs (i + 1)))] true Inv k J))
    (kk : ∀ K, Inv K → zRg K → zW G F (cells + 1 + 0) (slots + 6 + 0) K [(4, .int (zI i)), (3, .ref (F.1 129)), (2, .ref (F.1 110)), (1, .ref (F.1 0)), (0, .ref b)] [] 1759) : zW G F cells slots I [(4, .int (zI i)), (3, .ref (F.1 129)), (2, .ref (F.1 110)), (1, .ref (F.1 0)), (0, .ref b)] [] 733 := by
  refine z_aload_n 3 hG dL_law_733 rfl rfl ?_
  refine z_aload_n 4 hG dL_law_734 rfl rfl ?_
  refine z_iload 0 hG dL_law_735 rfl ?_
  refine z_iconst 1 hG dL_law_737 ?_
  refine z_iadd hG dL_law_738 ?_
  refine z_sal hG hS0 hL2 (by omega) dL_law_739 ?_
  refine z_aload_n 1 hG dL_law_740 rfl rfl ?_
  refine z_callSH [.ref (F.1 0), .int (zI (zsc xs (i + 1))), .ref (F.1 129)] hG hR hW hd_L_isMerged kw520 kw521 (by show 9 ≤ _; omega) (by show 147 ≤ _; omega) (by show cells + 1 ≤ _; omega) (by show slots + 6 ≤ _; omega) rfl rfl (Nat.le_of_ble_eq_true rfl) dL_law_741 (fun r I1 hq => ?_)
  obtain ⟨k, rfl, hk, post, hM, hp⟩ := hq
  show zW G F (cells + 1) (slots + 6) I1 [(4, .int (zI i)), (3, .ref (F.1 129)), (2, .ref (F.1 110)), (1, .ref (F.1 0)), (0, .ref b)] [.int (zI k)] 744
  refine z_istore (lv' := [(5, .int (zI k)), (4, .int (zI i)), (3, .ref (F.1 129)), (2, .ref (F.1 110)), (1, .ref (F.1 0)), (0, .ref b)]) hG dL_law_744 (by decide) rfl ?_
  refine z_aload_n 3 hG dL_law_746 rfl rfl ?_
  refine z_aload_n 5 hG dL_law_747 rfl rfl ?_
  refine z_iload 1 hG dL_law_748 rfl ?_
  refine z_iconst 1 hG dL_law_750 ?_
  refine z_iadd hG dL_law_751 ?_
  refine z_sal hG hS0 hL2 (by omega) dL_law_752 ?_
  refine z_callV [.int (zI (zsc xs (i + 1)))] hG hR hM hd_X4_isMerged kw870 kw871 kw872 rfl (zltL hL (by decide)) (zl110 hL.m) (by show 2 ≤ _; omega) (by show 42 ≤ _; omega) (by show cells + 1 + 0 ≤ _; omega) (by show slots + 6 + 0 ≤ _; omega) rfl rfl (Nat.le_of_ble_eq_true rfl) dL_law_753 (fun r K hq => ?_)
  obtain ⟨v, rfl, hv, hb, h0, h1, hrK, hI⟩ := hp r K hq
  show zW G F (cells + 1 + 0) (slots + 6 + 0) K [(5, .int (zI k)), (4, .int (zI i)), (3, .ref (F.1 129)), (2, .ref (F.1 110)), (1, .ref (F.1 0)), (0, .ref b)] [.int (zI v)] 756
  refine z_istore (lv' := [(6, .int (zI v)), (5, .int (zI k)), (4, .int (zI i)), (3, .ref (F.1 129)), (2, .ref (F.1 110)), (1, .ref (F.1 0)), (0, .ref b)]) hG dL_law_756 (by decide) rfl ?_
  refine z_aload_n 4 hG dL_law_758 rfl rfl ?_
  refine z_callV [] hG hR (c_X4_thrown hL.m hrK) hd_X4_thrown kw759 kw760 kw761 rfl (zltL hL (by decide)) (zl110 hL.m) (by show 1 ≤ _; omega) (by show 20 ≤ _; omega) (by show cells + 1 + 0 ≤ _; omega) (by show slots + 6 + 0 ≤ _; omega) rfl rfl (Nat.le_of_ble_eq_true rfl) dL_law_759 (fun r K2 hq => ?_)
  rw [hq.1, hq.2, h0]
  show zW G F (cells + 1 + 0) (slots + 6 + 0) K [(6, .int (zI v)), (5, .int (zI k)), (4, .int (zI i)), (3, .ref (F.1 129)), (2, .ref (F.1 110)), (1, .ref (F.1 0)), (0, .ref b)] [.int (zI k)] 762
  refine z_iload 1 hG dL_law_762 rfl ?_
  refine z_icmp_eq (tgt := 769) hG dL_law_764 (by decide) (by omega) (by omega) (fun _ => ?_) (fun q => absurd rfl q)
  refine z_iload 1 hG dL_law_769 rfl ?_
  refine z_if_ne (tgt := 793) hG dL_law_771 (by decide) (by omega) (fun q => ?_) (fun q => ?_)
  · refine z_goto (tgt := 1759) hG dL_law_793 (by decide) ?_
    refine z_perm (lv' := [(4, .int (zI i)), (3, .ref (F.1 129)), (2, .ref (F.1 110)), (1, .ref (F.1 0)), (0, .ref b)]) [2, 3, 4, 5, 6] rfl ?_
    exact kk _ hI hrK
  · refine z_aload_n 3 hG dL_law_774 rfl rfl ?_
    refine z_iconst 0 hG dL_law_775 ?_
    refine z_lald (v := v) hG (zltL hL (by decide)) (zl129 hL) (by decide) (by decide) (h1 q) dL_law_776 ?_
    refine z_iload 0 hG dL_law_777 rfl ?_
    refine z_if_eq (tgt := 786) hG dL_law_779 (by decide) hv (fun e => ?_) (fun e => ?_)
    · rw [e]
      refine z_lconst 0 hG dL_law_786 rfl ?_
      refine z_lcmpe hG dL_law_787 ?_
      refine z_if_eq (tgt := 793) hG dL_law_788 (by decide) (by decide) (fun _ => ?_) (fun q9 => absurd rfl q9)
      refine z_goto (tgt := 1759) hG dL_law_793 (by decide) ?_
      refine z_perm (lv' := [(4, .int (zI i)), (3, .ref (F.1 129)), (2, .ref (F.1 110)), (1, .ref (F.1 0)), (0, .ref b)]) [2, 3, 4, 5, 6] rfl ?_
      exact kk _ hI hrK
    · have e1 : v = 1 := by
        have := hb rfl
        omega
      rw [e1]
      refine z_lconst 1 hG dL_law_782 rfl ?_
      refine z_goto (tgt := 787) hG dL_law_783 (by decide) ?_
      refine z_lcmpe hG dL_law_787 ?_
      refine z_if_eq (tgt := 793) hG dL_law_788 (by decide) (by decide) (fun _ => ?_) (fun q9 => absurd rfl q9)
      refine z_goto (tgt := 1759) hG dL_law_793 (by decide) ?_
      refine z_perm (lv' := [(4, .int (zI i)), (3, .ref (F.1 129)), (2, .ref (F.1 110)), (1, .ref (F.1 0)), (0, .ref b)]) [2, 3, 4, 5, 6] rfl ?_
      exact kk _ hI hrK
set_option maxRecDepth 100000 in
set_option maxHeartbeats 8000000 in
theorem w_L_costWith {G : zCx} {F : zFr} {I : zStore} {cells slots b L : Nat} {xs : Nat → Int32} {i : Int} {rmG : Room} {Inv : zStore → Prop} (hG : zOK G "LineLearnerLaw" cL_law 9) (hS0 : zScr G b L xs) (hR : zRoom G rmG) (hfr : 12 ≤ rmG.frames) (hlo : 428 ≤ rmG.locals) (hce : cells + 4 ≤ rmG.cells) (hsl : slots + 1400 ≤ rmG.slots) (hL : zLayL F) (hL2 : L ≤ 2048) (hi : 0 ≤ i ∧ i + 4 ≤ L)
    (hW : ∀ (l : Launch) (D : va_G) (cs : Nat → ClassId), l.stackTraces = false → zMh l yL_costWith cL_costWith 4 (some .int) [(0, 9, 12, 25)] rm_L_costWith D cs F I [.ref (F.1 0), .int (zI (zsc xs (i + 1))), .ref (F.1 129)] (fun r J => ∃ k : Int, r = some (.int (zI k)) ∧ (0 ≤ k ∧ k ≤ 2) ∧ zPs yX4_costWith cX4_costWith 2 (some .int) rm_X4_costWith F [.int (zI (zsc xs (i + 1)))] false Inv k J))
    (kk : ∀ K, Inv K → zRg K → zW G F (cells + 1 + 0) (slots + 6 + 0) K [(4, .int (zI i)), (3, .ref (F.1 129)), (2, .ref (F.1 110)), (1, .ref (F.1 0)), (0, .ref b)] [] 1759) : zW G F cells slots I [(4, .int (zI i)), (3, .ref (F.1 129)), (2, .ref (F.1 110)), (1, .ref (F.1 0)), (0, .ref b)] [] 796 := by
  refine z_aload_n 3 hG dL_law_796 rfl rfl ?_
  refine z_aload_n 4 hG dL_law_797 rfl rfl ?_
  refine z_iload 0 hG dL_law_798 rfl ?_
  refine z_iconst 1 hG dL_law_800 ?_
  refine z_iadd hG dL_law_801 ?_
  refine z_sal hG hS0 hL2 (by omega) dL_law_802 ?_
  refine z_aload_n 1 hG dL_law_803 rfl rfl ?_
  refine z_callSH [.ref (F.1 0), .int (zI (zsc xs (i + 1))), .ref (F.1 129)] hG hR hW hd_L_costWith kw527 kw528 (by show 9 ≤ _; omega) (by show 147 ≤ _; omega) (by show cells + 1 ≤ _; omega) (by show slots + 6 ≤ _; omega) rfl rfl (Nat.le_of_ble_eq_true rfl) dL_law_804 (fun r I1 hq => ?_)
  obtain ⟨k, rfl, hk, post, hM, hp⟩ := hq
  show zW G F (cells + 1) (slots + 6) I1 [(4, .int (zI i)), (3, .ref (F.1 129)), (2, .ref (F.1 110)), (1, .ref (F.1 0)), (0, .ref b)] [.int (zI k)] 807
  refine z_istore (lv' := [(5, .int (zI k)), (4, .int (zI i)), (3, .ref (F.1 129)), (2, .ref (F.1 110)), (1, .ref (F.1 0)), (0, .ref b)]) hG dL_law_807 (by decide) rfl ?_
  refine z_aload_n 3 hG dL_law_809 rfl rfl ?_
  refine z_aload_n 5 hG dL_law_810 rfl rfl ?_
  refine z_iload 1 hG dL_law_811 rfl ?_
  refine z_iconst 1 hG dL_law_813 ?_
  refine z_iadd hG dL_law_814 ?_
  refine z_sal hG hS0 hL2 (by omega) dL_law_815 ?_
  refine z_callV [.int (zI (zsc xs (i + 1)))] hG hR hM hd_X4_costWith kw874 kw875 kw876 rfl (zltL hL (by decide)) (zl110 hL.m) (by show 7 ≤ _; omega) (by show 165 ≤ _; omega) (by show cells + 1 + 0 ≤ _; omega) (by show slots + 6 + 0 ≤ _; omega) rfl rfl (Nat.le_of_ble_eq_true rfl) dL_law_816 (fun r K hq => ?_)
  obtain ⟨v, rfl, hv, hb, h0, h1, hrK, hI⟩ := hp r K hq
  show zW G F (cells + 1 + 0) (slots + 6 + 0) K [(5, .int (zI k)), (4, .int (zI i)), (3, .ref (F.1 129)), (2, .ref (F.1 110)), (1, .ref (F.1 0)), (0, .ref b)] [.int (zI v)] 819
  refine z_istore (lv' := [(6, .int (zI v)), (5, .int (zI k)), (4, .int (zI i)), (3, .ref (F.1 129)), (2, .ref (F.1 110)), (1, .ref (F.1 0)), (0, .ref b)]) hG dL_law_819 (by decide) rfl ?_
  refine z_aload_n 4 hG dL_law_821 rfl rfl ?_
  refine z_callV [] hG hR (c_X4_thrown hL.m hrK) hd_X4_thrown kw759 kw760 kw761 rfl (zltL hL (by decide)) (zl110 hL.m) (by show 1 ≤ _; omega) (by show 20 ≤ _; omega) (by show cells + 1 + 0 ≤ _; omega) (by show slots + 6 + 0 ≤ _; omega) rfl rfl (Nat.le_of_ble_eq_true rfl) dL_law_822 (fun r K2 hq => ?_)
  rw [hq.1, hq.2, h0]
  show zW G F (cells + 1 + 0) (slots + 6 + 0) K [(6, .int (zI v)), (5, .int (zI k)), (4, .int (zI i)), (3, .ref (F.1 129)), (2, .ref (F.1 110)), (1, .ref (F.1 0)), (0, .ref b)] [.int (zI k)] 825
  refine z_iload 1 hG dL_law_825 rfl ?_
  refine z_icmp_eq (tgt := 832) hG dL_law_827 (by decide) (by omega) (by omega) (fun _ => ?_) (fun q => absurd rfl q)
  refine z_iload 1 hG dL_law_832 rfl ?_
  refine z_if_ne (tgt := 849) hG dL_law_834 (by decide) (by omega) (fun q => ?_) (fun q => ?_)
  · refine z_goto (tgt := 1759) hG dL_law_849 (by decide) ?_
    refine z_perm (lv' := [(4, .int (zI i)), (3, .ref (F.1 129)), (2, .ref (F.1 110)), (1, .ref (F.1 0)), (0, .ref b)]) [2, 3, 4, 5, 6] rfl ?_
    exact kk _ hI hrK
  · refine z_aload_n 3 hG dL_law_837 rfl rfl ?_
    refine z_iconst 0 hG dL_law_838 ?_
    refine z_lald (v := v) hG (zltL hL (by decide)) (zl129 hL) (by decide) (by decide) (h1 q) dL_law_839 ?_
    refine z_iload 0 hG dL_law_840 rfl ?_
    refine z_i2l hG dL_law_842 hv ?_
    refine z_lcmpe hG dL_law_843 ?_
    refine z_if_eq (tgt := 849) hG dL_law_844 (by decide) (by decide) (fun _ => ?_) (fun q9 => absurd rfl q9)
    refine z_goto (tgt := 1759) hG dL_law_849 (by decide) ?_
    refine z_perm (lv' := [(4, .int (zI i)), (3, .ref (F.1 129)), (2, .ref (F.1 110)), (1, .ref (F.1 0)), (0, .ref b)]) [2, 3, 4, 5, 6] rfl ?_
    exact kk _ hI hrK
set_option maxRecDepth 100000 in
set_option maxHeartbeats 8000000 in
theorem w_L_fits {G : zCx} {F : zFr} {I : zStore} {cells slots b L : Nat} {xs : Nat → Int32} {i : Int} {rmG : Room} {Inv : zStore → Prop} (hG : zOK G "LineLearnerLaw" cL_law 9) (hS0 : zScr G b L xs) (hR : zRoom G rmG) (hfr : 12 ≤ rmG.frames) (hlo : 428 ≤ rmG.locals) (hce : cells + 4 ≤ rmG.cells) (hsl : slots + 1400 ≤ rmG.slots) (hL : zLayL F) (hL2 : L ≤ 2048) (hi : 0 ≤ i ∧ i + 4 ≤ L)
    (hW : ∀ (l : Launch) (D : va_G) (cs : Nat → ClassId), l.stackTraces = false → zMh l yL_fits cL_fits 4 (some .int) [(0, 16, 19, 25)] rm_L_fits D cs F I [.ref (F.1 0), .int (zI (zsc xs (i + 1))), .ref (F.1 129)] (fun r J => ∃ k : Int, r = some (.int (zI k)) ∧ (0 ≤ k ∧ k ≤ 2) ∧ zPs yX4_fits cX4_fits 6 (some .boolean) rm_X4_fits F [.int (zI (zsc xs (i + 1)))] true Inv k J))
    (kk : ∀ K, Inv K → zRg K → zW G F (cells + 1 + 1) (slots + 6 + 1271) K [(4, .int (zI i)), (3, .ref (F.1 129)), (2, .ref (F.1 110)), (1, .ref (F.1 0)), (0, .ref b)] [] 1759) : zW G F cells slots I [(4, .int (zI i)), (3, .ref (F.1 129)), (2, .ref (F.1 110)), (1, .ref (F.1 0)), (0, .ref b)] [] 852 := by
  refine z_aload_n 3 hG dL_law_852 rfl rfl ?_
  refine z_aload_n 4 hG dL_law_853 rfl rfl ?_
  refine z_iload 0 hG dL_law_854 rfl ?_
  refine z_iconst 1 hG dL_law_856 ?_
  refine z_iadd hG dL_law_857 ?_
  refine z_sal hG hS0 hL2 (by omega) dL_law_858 ?_
  refine z_aload_n 1 hG dL_law_859 rfl rfl ?_
  refine z_callSH [.ref (F.1 0), .int (zI (zsc xs (i + 1))), .ref (F.1 129)] hG hR hW hd_L_fits kw534 kw535 (by show 9 ≤ _; omega) (by show 147 ≤ _; omega) (by show cells + 1 ≤ _; omega) (by show slots + 6 ≤ _; omega) rfl rfl (Nat.le_of_ble_eq_true rfl) dL_law_860 (fun r I1 hq => ?_)
  obtain ⟨k, rfl, hk, post, hM, hp⟩ := hq
  show zW G F (cells + 1) (slots + 6) I1 [(4, .int (zI i)), (3, .ref (F.1 129)), (2, .ref (F.1 110)), (1, .ref (F.1 0)), (0, .ref b)] [.int (zI k)] 863
  refine z_istore (lv' := [(5, .int (zI k)), (4, .int (zI i)), (3, .ref (F.1 129)), (2, .ref (F.1 110)), (1, .ref (F.1 0)), (0, .ref b)]) hG dL_law_863 (by decide) rfl ?_
  refine z_aload_n 3 hG dL_law_865 rfl rfl ?_
  refine z_aload_n 5 hG dL_law_866 rfl rfl ?_
  refine z_iload 1 hG dL_law_867 rfl ?_
  refine z_iconst 1 hG dL_law_869 ?_
  refine z_iadd hG dL_law_870 ?_
  refine z_sal hG hS0 hL2 (by omega) dL_law_871 ?_
  refine z_callV [.int (zI (zsc xs (i + 1)))] hG hR hM hd_X4_fits kw878 kw879 kw880 rfl (zltL hL (by decide)) (zl110 hL.m) (by show 5 ≤ _; omega) (by show 118 ≤ _; omega) (by show cells + 1 + 1 ≤ _; omega) (by show slots + 6 + 1271 ≤ _; omega) rfl rfl (Nat.le_of_ble_eq_true rfl) dL_law_872 (fun r K hq => ?_)
  obtain ⟨v, rfl, hv, hb, h0, h1, hrK, hI⟩ := hp r K hq
  show zW G F (cells + 1 + 1) (slots + 6 + 1271) K [(5, .int (zI k)), (4, .int (zI i)), (3, .ref (F.1 129)), (2, .ref (F.1 110)), (1, .ref (F.1 0)), (0, .ref b)] [.int (zI v)] 875
  refine z_istore (lv' := [(6, .int (zI v)), (5, .int (zI k)), (4, .int (zI i)), (3, .ref (F.1 129)), (2, .ref (F.1 110)), (1, .ref (F.1 0)), (0, .ref b)]) hG dL_law_875 (by decide) rfl ?_
  refine z_aload_n 4 hG dL_law_877 rfl rfl ?_
  refine z_callV [] hG hR (c_X4_thrown hL.m hrK) hd_X4_thrown kw759 kw760 kw761 rfl (zltL hL (by decide)) (zl110 hL.m) (by show 1 ≤ _; omega) (by show 20 ≤ _; omega) (by show cells + 1 + 1 ≤ _; omega) (by show slots + 6 + 1271 ≤ _; omega) rfl rfl (Nat.le_of_ble_eq_true rfl) dL_law_878 (fun r K2 hq => ?_)
  rw [hq.1, hq.2, h0]
  show zW G F (cells + 1 + 1) (slots + 6 + 1271) K [(6, .int (zI v)), (5, .int (zI k)), (4, .int (zI i)), (3, .ref (F.1 129)), (2, .ref (F.1 110)), (1, .ref (F.1 0)), (0, .ref b)] [.int (zI k)] 881
  refine z_iload 1 hG dL_law_881 rfl ?_
  refine z_icmp_eq (tgt := 888) hG dL_law_883 (by decide) (by omega) (by omega) (fun _ => ?_) (fun q => absurd rfl q)
  refine z_iload 1 hG dL_law_888 rfl ?_
  refine z_if_ne (tgt := 912) hG dL_law_890 (by decide) (by omega) (fun q => ?_) (fun q => ?_)
  · refine z_goto (tgt := 1759) hG dL_law_912 (by decide) ?_
    refine z_perm (lv' := [(4, .int (zI i)), (3, .ref (F.1 129)), (2, .ref (F.1 110)), (1, .ref (F.1 0)), (0, .ref b)]) [2, 3, 4, 5, 6] rfl ?_
    exact kk _ hI hrK
  · refine z_aload_n 3 hG dL_law_893 rfl rfl ?_
    refine z_iconst 0 hG dL_law_894 ?_
    refine z_lald (v := v) hG (zltL hL (by decide)) (zl129 hL) (by decide) (by decide) (h1 q) dL_law_895 ?_
    refine z_iload 0 hG dL_law_896 rfl ?_
    refine z_if_eq (tgt := 905) hG dL_law_898 (by decide) hv (fun e => ?_) (fun e => ?_)
    · rw [e]
      refine z_lconst 0 hG dL_law_905 rfl ?_
      refine z_lcmpe hG dL_law_906 ?_
      refine z_if_eq (tgt := 912) hG dL_law_907 (by decide) (by decide) (fun _ => ?_) (fun q9 => absurd rfl q9)
      refine z_goto (tgt := 1759) hG dL_law_912 (by decide) ?_
      refine z_perm (lv' := [(4, .int (zI i)), (3, .ref (F.1 129)), (2, .ref (F.1 110)), (1, .ref (F.1 0)), (0, .ref b)]) [2, 3, 4, 5, 6] rfl ?_
      exact kk _ hI hrK
    · have e1 : v = 1 := by
        have := hb rfl
        omega
      rw [e1]
      refine z_lconst 1 hG dL_law_901 rfl ?_
      refine z_goto (tgt := 906) hG dL_law_902 (by decide) ?_
      refine z_lcmpe hG dL_law_906 ?_
      refine z_if_eq (tgt := 912) hG dL_law_907 (by decide) (by decide) (fun _ => ?_) (fun q9 => absurd rfl q9)
      refine z_goto (tgt := 1759) hG dL_law_912 (by decide) ?_
      refine z_perm (lv' := [(4, .int (zI i)), (3, .ref (F.1 129)), (2, .ref (F.1 110)), (1, .ref (F.1 0)), (0, .ref b)]) [2, 3, 4, 5, 6] rfl ?_
      exact kk _ hI hrK
set_option maxRecDepth 100000 in
set_option maxHeartbeats 8000000 in
theorem w_L_slotKind {G : zCx} {F : zFr} {I : zStore} {cells slots b L : Nat} {xs : Nat → Int32} {i : Int} {rmG : Room} {Inv : zStore → Prop} (hG : zOK G "LineLearnerLaw" cL_law 9) (hS0 : zScr G b L xs) (hR : zRoom G rmG) (hfr : 12 ≤ rmG.frames) (hlo : 428 ≤ rmG.locals) (hce : cells + 4 ≤ rmG.cells) (hsl : slots + 1400 ≤ rmG.slots) (hL : zLayL F) (hL2 : L ≤ 2048) (hi : 0 ≤ i ∧ i + 4 ≤ L)
    (hW : ∀ (l : Launch) (D : va_G) (cs : Nat → ClassId), l.stackTraces = false → zMh l yL_slotKind cL_slotKind 4 (some .int) [(0, 9, 12, 25)] rm_L_slotKind D cs F I [.ref (F.1 0), .int (zI (zsc xs (i + 1))), .ref (F.1 129)] (fun r J => ∃ k : Int, r = some (.int (zI k)) ∧ (0 ≤ k ∧ k ≤ 2) ∧ zPs yX4_slotKind cX4_slotKind 2 (some .int) rm_X4_slotKind F [.int (zI (zsc xs (i + 1)))] false Inv k J))
    (kk : ∀ K, Inv K → zRg K → zW G F (cells + 1 + 0) (slots + 6 + 0) K [(4, .int (zI i)), (3, .ref (F.1 129)), (2, .ref (F.1 110)), (1, .ref (F.1 0)), (0, .ref b)] [] 1759) : zW G F cells slots I [(4, .int (zI i)), (3, .ref (F.1 129)), (2, .ref (F.1 110)), (1, .ref (F.1 0)), (0, .ref b)] [] 941 := by
  refine z_aload_n 3 hG dL_law_941 rfl rfl ?_
  refine z_aload_n 4 hG dL_law_942 rfl rfl ?_
  refine z_iload 0 hG dL_law_943 rfl ?_
  refine z_iconst 1 hG dL_law_945 ?_
  refine z_iadd hG dL_law_946 ?_
  refine z_sal hG hS0 hL2 (by omega) dL_law_947 ?_
  refine z_aload_n 1 hG dL_law_948 rfl rfl ?_
  refine z_callSH [.ref (F.1 0), .int (zI (zsc xs (i + 1))), .ref (F.1 129)] hG hR hW hd_L_slotKind kw549 kw550 (by show 9 ≤ _; omega) (by show 147 ≤ _; omega) (by show cells + 1 ≤ _; omega) (by show slots + 6 ≤ _; omega) rfl rfl (Nat.le_of_ble_eq_true rfl) dL_law_949 (fun r I1 hq => ?_)
  obtain ⟨k, rfl, hk, post, hM, hp⟩ := hq
  show zW G F (cells + 1) (slots + 6) I1 [(4, .int (zI i)), (3, .ref (F.1 129)), (2, .ref (F.1 110)), (1, .ref (F.1 0)), (0, .ref b)] [.int (zI k)] 952
  refine z_istore (lv' := [(5, .int (zI k)), (4, .int (zI i)), (3, .ref (F.1 129)), (2, .ref (F.1 110)), (1, .ref (F.1 0)), (0, .ref b)]) hG dL_law_952 (by decide) rfl ?_
  refine z_aload_n 3 hG dL_law_954 rfl rfl ?_
  refine z_aload_n 5 hG dL_law_955 rfl rfl ?_
  refine z_iload 1 hG dL_law_956 rfl ?_
  refine z_iconst 1 hG dL_law_958 ?_
  refine z_iadd hG dL_law_959 ?_
  refine z_sal hG hS0 hL2 (by omega) dL_law_960 ?_
  refine z_callV [.int (zI (zsc xs (i + 1)))] hG hR hM hd_X4_slotKind kw898 kw899 kw900 rfl (zltL hL (by decide)) (zl110 hL.m) (by show 2 ≤ _; omega) (by show 42 ≤ _; omega) (by show cells + 1 + 0 ≤ _; omega) (by show slots + 6 + 0 ≤ _; omega) rfl rfl (Nat.le_of_ble_eq_true rfl) dL_law_961 (fun r K hq => ?_)
  obtain ⟨v, rfl, hv, hb, h0, h1, hrK, hI⟩ := hp r K hq
  show zW G F (cells + 1 + 0) (slots + 6 + 0) K [(5, .int (zI k)), (4, .int (zI i)), (3, .ref (F.1 129)), (2, .ref (F.1 110)), (1, .ref (F.1 0)), (0, .ref b)] [.int (zI v)] 964
  refine z_istore (lv' := [(6, .int (zI v)), (5, .int (zI k)), (4, .int (zI i)), (3, .ref (F.1 129)), (2, .ref (F.1 110)), (1, .ref (F.1 0)), (0, .ref b)]) hG dL_law_964 (by decide) rfl ?_
  refine z_aload_n 4 hG dL_law_966 rfl rfl ?_
  refine z_callV [] hG hR (c_X4_thrown hL.m hrK) hd_X4_thrown kw759 kw760 kw761 rfl (zltL hL (by decide)) (zl110 hL.m) (by show 1 ≤ _; omega) (by show 20 ≤ _; omega) (by show cells + 1 + 0 ≤ _; omega) (by show slots + 6 + 0 ≤ _; omega) rfl rfl (Nat.le_of_ble_eq_true rfl) dL_law_967 (fun r K2 hq => ?_)
  rw [hq.1, hq.2, h0]
  show zW G F (cells + 1 + 0) (slots + 6 + 0) K [(6, .int (zI v)), (5, .int (zI k)), (4, .int (zI i)), (3, .ref (F.1 129)), (2, .ref (F.1 110)), (1, .ref (F.1 0)), (0, .ref b)] [.int (zI k)] 970
  refine z_iload 1 hG dL_law_970 rfl ?_
  refine z_icmp_eq (tgt := 977) hG dL_law_972 (by decide) (by omega) (by omega) (fun _ => ?_) (fun q => absurd rfl q)
  refine z_iload 1 hG dL_law_977 rfl ?_
  refine z_if_ne (tgt := 994) hG dL_law_979 (by decide) (by omega) (fun q => ?_) (fun q => ?_)
  · refine z_goto (tgt := 1759) hG dL_law_994 (by decide) ?_
    refine z_perm (lv' := [(4, .int (zI i)), (3, .ref (F.1 129)), (2, .ref (F.1 110)), (1, .ref (F.1 0)), (0, .ref b)]) [2, 3, 4, 5, 6] rfl ?_
    exact kk _ hI hrK
  · refine z_aload_n 3 hG dL_law_982 rfl rfl ?_
    refine z_iconst 0 hG dL_law_983 ?_
    refine z_lald (v := v) hG (zltL hL (by decide)) (zl129 hL) (by decide) (by decide) (h1 q) dL_law_984 ?_
    refine z_iload 0 hG dL_law_985 rfl ?_
    refine z_i2l hG dL_law_987 hv ?_
    refine z_lcmpe hG dL_law_988 ?_
    refine z_if_eq (tgt := 994) hG dL_law_989 (by decide) (by decide) (fun _ => ?_) (fun q9 => absurd rfl q9)
    refine z_goto (tgt := 1759) hG dL_law_994 (by decide) ?_
    refine z_perm (lv' := [(4, .int (zI i)), (3, .ref (F.1 129)), (2, .ref (F.1 110)), (1, .ref (F.1 0)), (0, .ref b)]) [2, 3, 4, 5, 6] rfl ?_
    exact kk _ hI hrK
set_option maxRecDepth 100000 in
set_option maxHeartbeats 8000000 in
theorem w_L_textByte {G : zCx} {F : zFr} {I : zStore} {cells slots b L : Nat} {xs : Nat → Int32} {i : Int} {rmG : Room} {Inv : zStore → Prop} (hG : zOK G "LineLearnerLaw" cL_law 9) (hS0 : zScr G b L xs) (hR : zRoom G rmG) (hfr : 12 ≤ rmG.frames) (hlo : 428 ≤ rmG.locals) (hce : cells + 4 ≤ rmG.cells) (hsl : slots + 1400 ≤ rmG.slots) (hL : zLayL F) (hL2 : L ≤ 2048) (hi : 0 ≤ i ∧ i + 4 ≤ L)
    (hW : ∀ (l : Launch) (D : va_G) (cs : Nat → ClassId), l.stackTraces = false → zMh l yL_textByte cL_textByte 5 (some .int) [(0, 10, 13, 25)] rm_L_textByte D cs F I [.ref (F.1 0), .int (zI (zsc xs (i + 1))), .int (zI (zsc xs (i + 2))), .ref (F.1 129)] (fun r J => ∃ k : Int, r = some (.int (zI k)) ∧ (0 ≤ k ∧ k ≤ 2) ∧ zPs yX4_textByte cX4_textByte 4 (some .int) rm_X4_textByte F [.int (zI (zsc xs (i + 1))), .int (zI (zsc xs (i + 2)))] false Inv k J))
    (kk : ∀ K, Inv K → zRg K → zW G F (cells + 2 + 0) (slots + 12 + 0) K [(4, .int (zI i)), (3, .ref (F.1 129)), (2, .ref (F.1 110)), (1, .ref (F.1 0)), (0, .ref b)] [] 1759) : zW G F cells slots I [(4, .int (zI i)), (3, .ref (F.1 129)), (2, .ref (F.1 110)), (1, .ref (F.1 0)), (0, .ref b)] [] 997 := by
  refine z_aload_n 3 hG dL_law_997 rfl rfl ?_
  refine z_aload_n 4 hG dL_law_998 rfl rfl ?_
  refine z_iload 0 hG dL_law_999 rfl ?_
  refine z_iconst 1 hG dL_law_1001 ?_
  refine z_iadd hG dL_law_1002 ?_
  refine z_sal hG hS0 hL2 (by omega) dL_law_1003 ?_
  refine z_aload_n 4 hG dL_law_1004 rfl rfl ?_
  refine z_iload 0 hG dL_law_1005 rfl ?_
  refine z_iconst 2 hG dL_law_1007 ?_
  refine z_iadd hG dL_law_1008 ?_
  refine z_sal hG hS0 hL2 (by omega) dL_law_1009 ?_
  refine z_aload_n 1 hG dL_law_1010 rfl rfl ?_
  refine z_callSH [.ref (F.1 0), .int (zI (zsc xs (i + 1))), .int (zI (zsc xs (i + 2))), .ref (F.1 129)] hG hR hW hd_L_textByte kw561 kw562 (by show 9 ≤ _; omega) (by show 150 ≤ _; omega) (by show cells + 2 ≤ _; omega) (by show slots + 12 ≤ _; omega) rfl rfl (Nat.le_of_ble_eq_true rfl) dL_law_1011 (fun r I1 hq => ?_)
  obtain ⟨k, rfl, hk, post, hM, hp⟩ := hq
  show zW G F (cells + 2) (slots + 12) I1 [(4, .int (zI i)), (3, .ref (F.1 129)), (2, .ref (F.1 110)), (1, .ref (F.1 0)), (0, .ref b)] [.int (zI k)] 1014
  refine z_istore (lv' := [(5, .int (zI k)), (4, .int (zI i)), (3, .ref (F.1 129)), (2, .ref (F.1 110)), (1, .ref (F.1 0)), (0, .ref b)]) hG dL_law_1014 (by decide) rfl ?_
  refine z_aload_n 3 hG dL_law_1016 rfl rfl ?_
  refine z_aload_n 5 hG dL_law_1017 rfl rfl ?_
  refine z_iload 1 hG dL_law_1018 rfl ?_
  refine z_iconst 1 hG dL_law_1020 ?_
  refine z_iadd hG dL_law_1021 ?_
  refine z_sal hG hS0 hL2 (by omega) dL_law_1022 ?_
  refine z_aload_n 5 hG dL_law_1023 rfl rfl ?_
  refine z_iload 1 hG dL_law_1024 rfl ?_
  refine z_iconst 2 hG dL_law_1026 ?_
  refine z_iadd hG dL_law_1027 ?_
  refine z_sal hG hS0 hL2 (by omega) dL_law_1028 ?_
  refine z_callV [.int (zI (zsc xs (i + 1))), .int (zI (zsc xs (i + 2)))] hG hR hM hd_X4_textByte kw906 kw907 kw908 rfl (zltL hL (by decide)) (zl110 hL.m) (by show 2 ≤ _; omega) (by show 44 ≤ _; omega) (by show cells + 2 + 0 ≤ _; omega) (by show slots + 12 + 0 ≤ _; omega) rfl rfl (Nat.le_of_ble_eq_true rfl) dL_law_1029 (fun r K hq => ?_)
  obtain ⟨v, rfl, hv, hb, h0, h1, hrK, hI⟩ := hp r K hq
  show zW G F (cells + 2 + 0) (slots + 12 + 0) K [(5, .int (zI k)), (4, .int (zI i)), (3, .ref (F.1 129)), (2, .ref (F.1 110)), (1, .ref (F.1 0)), (0, .ref b)] [.int (zI v)] 1032
  refine z_istore (lv' := [(6, .int (zI v)), (5, .int (zI k)), (4, .int (zI i)), (3, .ref (F.1 129)), (2, .ref (F.1 110)), (1, .ref (F.1 0)), (0, .ref b)]) hG dL_law_1032 (by decide) rfl ?_
  refine z_aload_n 4 hG dL_law_1034 rfl rfl ?_
  refine z_callV [] hG hR (c_X4_thrown hL.m hrK) hd_X4_thrown kw759 kw760 kw761 rfl (zltL hL (by decide)) (zl110 hL.m) (by show 1 ≤ _; omega) (by show 20 ≤ _; omega) (by show cells + 2 + 0 ≤ _; omega) (by show slots + 12 + 0 ≤ _; omega) rfl rfl (Nat.le_of_ble_eq_true rfl) dL_law_1035 (fun r K2 hq => ?_)
  rw [hq.1, hq.2, h0]
  show zW G F (cells + 2 + 0) (slots + 12 + 0) K [(6, .int (zI v)), (5, .int (zI k)), (4, .int (zI i)), (3, .ref (F.1 129)), (2, .ref (F.1 110)), (1, .ref (F.1 0)), (0, .ref b)] [.int (zI k)] 1038
  refine z_iload 1 hG dL_law_1038 rfl ?_
  refine z_icmp_eq (tgt := 1045) hG dL_law_1040 (by decide) (by omega) (by omega) (fun _ => ?_) (fun q => absurd rfl q)
  refine z_iload 1 hG dL_law_1045 rfl ?_
  refine z_if_ne (tgt := 1062) hG dL_law_1047 (by decide) (by omega) (fun q => ?_) (fun q => ?_)
  · refine z_goto (tgt := 1759) hG dL_law_1062 (by decide) ?_
    refine z_perm (lv' := [(4, .int (zI i)), (3, .ref (F.1 129)), (2, .ref (F.1 110)), (1, .ref (F.1 0)), (0, .ref b)]) [2, 3, 4, 5, 6] rfl ?_
    exact kk _ hI hrK
  · refine z_aload_n 3 hG dL_law_1050 rfl rfl ?_
    refine z_iconst 0 hG dL_law_1051 ?_
    refine z_lald (v := v) hG (zltL hL (by decide)) (zl129 hL) (by decide) (by decide) (h1 q) dL_law_1052 ?_
    refine z_iload 0 hG dL_law_1053 rfl ?_
    refine z_i2l hG dL_law_1055 hv ?_
    refine z_lcmpe hG dL_law_1056 ?_
    refine z_if_eq (tgt := 1062) hG dL_law_1057 (by decide) (by decide) (fun _ => ?_) (fun q9 => absurd rfl q9)
    refine z_goto (tgt := 1759) hG dL_law_1062 (by decide) ?_
    refine z_perm (lv' := [(4, .int (zI i)), (3, .ref (F.1 129)), (2, .ref (F.1 110)), (1, .ref (F.1 0)), (0, .ref b)]) [2, 3, 4, 5, 6] rfl ?_
    exact kk _ hI hrK
set_option maxRecDepth 100000 in
set_option maxHeartbeats 8000000 in
theorem w_L_sizeOf {G : zCx} {F : zFr} {I : zStore} {cells slots b L : Nat} {xs : Nat → Int32} {i : Int} {rmG : Room} {Inv : zStore → Prop} (hG : zOK G "LineLearnerLaw" cL_law 9) (hS0 : zScr G b L xs) (hR : zRoom G rmG) (hfr : 12 ≤ rmG.frames) (hlo : 428 ≤ rmG.locals) (hce : cells + 4 ≤ rmG.cells) (hsl : slots + 1400 ≤ rmG.slots) (hL : zLayL F) (hL2 : L ≤ 2048) (hi : 0 ≤ i ∧ i + 4 ≤ L)
    (hW : ∀ (l : Launch) (D : va_G) (cs : Nat → ClassId), l.stackTraces = false → zMh l yL_sizeOf cL_sizeOf 5 (some .int) [(0, 10, 13, 25)] rm_L_sizeOf D cs F I [.ref (F.1 0), .int (zI (zsc xs (i + 1))), .int (zI (if (zsc xs (i + 2)) = 0 then 0 else 1)), .ref (F.1 129)] (fun r J => ∃ k : Int, r = some (.int (zI k)) ∧ (0 ≤ k ∧ k ≤ 2) ∧ zPs yX4_sizeOf cX4_sizeOf 3 (some .int) rm_X4_sizeOf F [.int (zI (zsc xs (i + 1))), .int (zI (if (zsc xs (i + 2)) = 0 then 0 else 1))] false Inv k J))
    (kk : ∀ K, Inv K → zRg K → zW G F (cells + 1 + 0) (slots + 6 + 0) K [(4, .int (zI i)), (3, .ref (F.1 129)), (2, .ref (F.1 110)), (1, .ref (F.1 0)), (0, .ref b)] [] 1759) : zW G F cells slots I [(4, .int (zI i)), (3, .ref (F.1 129)), (2, .ref (F.1 110)), (1, .ref (F.1 0)), (0, .ref b)] [] 1065 := by
  refine z_aload_n 3 hG dL_law_1065 rfl rfl ?_
  refine z_aload_n 4 hG dL_law_1066 rfl rfl ?_
  refine z_iload 0 hG dL_law_1067 rfl ?_
  refine z_iconst 1 hG dL_law_1069 ?_
  refine z_iadd hG dL_law_1070 ?_
  refine z_sal hG hS0 hL2 (by omega) dL_law_1071 ?_
  refine z_aload_n 4 hG dL_law_1072 rfl rfl ?_
  refine z_iload 0 hG dL_law_1073 rfl ?_
  refine z_iconst 2 hG dL_law_1075 ?_
  refine z_iadd hG dL_law_1076 ?_
  refine z_sal hG hS0 hL2 (by omega) dL_law_1077 ?_
  have hb1078 : ∀ {c9 s9 : Nat} {I9 : zStore} {lv9 : zLv}, zW G F c9 s9 I9 lv9 [.int (zI (if (zsc xs (i + 2)) = 0 then 0 else 1)), .int (zI (zsc xs (i + 1))), .ref (F.1 0)] 1086 → zW G F c9 s9 I9 lv9 [.int (zI ((zsc xs (i + 2)))), .int (zI (zsc xs (i + 1))), .ref (F.1 0)] 1078 := fun {c9 s9 I9 lv9} h9 => by
    refine z_if_eq (tgt := 1085) hG dL_law_1078 (by decide) (zsc_rg _ _) (fun e => ?_) (fun e => ?_)
    · rw [if_pos e] at h9
      exact z_iconst 0 hG dL_law_1085 h9
    · rw [if_neg e] at h9
      refine z_iconst 1 hG dL_law_1081 ?_
      exact z_goto (tgt := 1086) hG dL_law_1082 (by decide) h9
  refine hb1078 ?_
  refine z_aload_n 1 hG dL_law_1086 rfl rfl ?_
  refine z_callSH [.ref (F.1 0), .int (zI (zsc xs (i + 1))), .int (zI (if (zsc xs (i + 2)) = 0 then 0 else 1)), .ref (F.1 129)] hG hR hW hd_L_sizeOf kw569 kw570 (by show 9 ≤ _; omega) (by show 150 ≤ _; omega) (by show cells + 1 ≤ _; omega) (by show slots + 6 ≤ _; omega) rfl rfl (Nat.le_of_ble_eq_true rfl) dL_law_1087 (fun r I1 hq => ?_)
  obtain ⟨k, rfl, hk, post, hM, hp⟩ := hq
  show zW G F (cells + 1) (slots + 6) I1 [(4, .int (zI i)), (3, .ref (F.1 129)), (2, .ref (F.1 110)), (1, .ref (F.1 0)), (0, .ref b)] [.int (zI k)] 1090
  refine z_istore (lv' := [(5, .int (zI k)), (4, .int (zI i)), (3, .ref (F.1 129)), (2, .ref (F.1 110)), (1, .ref (F.1 0)), (0, .ref b)]) hG dL_law_1090 (by decide) rfl ?_
  refine z_aload_n 3 hG dL_law_1092 rfl rfl ?_
  refine z_aload_n 5 hG dL_law_1093 rfl rfl ?_
  refine z_iload 1 hG dL_law_1094 rfl ?_
  refine z_iconst 1 hG dL_law_1096 ?_
  refine z_iadd hG dL_law_1097 ?_
  refine z_sal hG hS0 hL2 (by omega) dL_law_1098 ?_
  refine z_aload_n 5 hG dL_law_1099 rfl rfl ?_
  refine z_iload 1 hG dL_law_1100 rfl ?_
  refine z_iconst 2 hG dL_law_1102 ?_
  refine z_iadd hG dL_law_1103 ?_
  refine z_sal hG hS0 hL2 (by omega) dL_law_1104 ?_
  have hb1105 : ∀ {c9 s9 : Nat} {I9 : zStore} {lv9 : zLv}, zW G F c9 s9 I9 lv9 [.int (zI (if (zsc xs (i + 2)) = 0 then 0 else 1)), .int (zI (zsc xs (i + 1))), .ref (F.1 110)] 1113 → zW G F c9 s9 I9 lv9 [.int (zI ((zsc xs (i + 2)))), .int (zI (zsc xs (i + 1))), .ref (F.1 110)] 1105 := fun {c9 s9 I9 lv9} h9 => by
    refine z_if_eq (tgt := 1112) hG dL_law_1105 (by decide) (zsc_rg _ _) (fun e => ?_) (fun e => ?_)
    · rw [if_pos e] at h9
      exact z_iconst 0 hG dL_law_1112 h9
    · rw [if_neg e] at h9
      refine z_iconst 1 hG dL_law_1108 ?_
      exact z_goto (tgt := 1113) hG dL_law_1109 (by decide) h9
  refine hb1105 ?_
  refine z_callV [.int (zI (zsc xs (i + 1))), .int (zI (if (zsc xs (i + 2)) = 0 then 0 else 1))] hG hR hM hd_X4_sizeOf kw910 kw911 kw912 rfl (zltL hL (by decide)) (zl110 hL.m) (by show 4 ≤ _; omega) (by show 92 ≤ _; omega) (by show cells + 1 + 0 ≤ _; omega) (by show slots + 6 + 0 ≤ _; omega) rfl rfl (Nat.le_of_ble_eq_true rfl) dL_law_1113 (fun r K hq => ?_)
  obtain ⟨v, rfl, hv, hb, h0, h1, hrK, hI⟩ := hp r K hq
  show zW G F (cells + 1 + 0) (slots + 6 + 0) K [(5, .int (zI k)), (4, .int (zI i)), (3, .ref (F.1 129)), (2, .ref (F.1 110)), (1, .ref (F.1 0)), (0, .ref b)] [.int (zI v)] 1116
  refine z_istore (lv' := [(6, .int (zI v)), (5, .int (zI k)), (4, .int (zI i)), (3, .ref (F.1 129)), (2, .ref (F.1 110)), (1, .ref (F.1 0)), (0, .ref b)]) hG dL_law_1116 (by decide) rfl ?_
  refine z_aload_n 4 hG dL_law_1118 rfl rfl ?_
  refine z_callV [] hG hR (c_X4_thrown hL.m hrK) hd_X4_thrown kw759 kw760 kw761 rfl (zltL hL (by decide)) (zl110 hL.m) (by show 1 ≤ _; omega) (by show 20 ≤ _; omega) (by show cells + 1 + 0 ≤ _; omega) (by show slots + 6 + 0 ≤ _; omega) rfl rfl (Nat.le_of_ble_eq_true rfl) dL_law_1119 (fun r K2 hq => ?_)
  rw [hq.1, hq.2, h0]
  show zW G F (cells + 1 + 0) (slots + 6 + 0) K [(6, .int (zI v)), (5, .int (zI k)), (4, .int (zI i)), (3, .ref (F.1 129)), (2, .ref (F.1 110)), (1, .ref (F.1 0)), (0, .ref b)] [.int (zI k)] 1122
  refine z_iload 1 hG dL_law_1122 rfl ?_
  refine z_icmp_eq (tgt := 1129) hG dL_law_1124 (by decide) (by omega) (by omega) (fun _ => ?_) (fun q => absurd rfl q)
  refine z_iload 1 hG dL_law_1129 rfl ?_
  refine z_if_ne (tgt := 1146) hG dL_law_1131 (by decide) (by omega) (fun q => ?_) (fun q => ?_)
  · refine z_goto (tgt := 1759) hG dL_law_1146 (by decide) ?_
    refine z_perm (lv' := [(4, .int (zI i)), (3, .ref (F.1 129)), (2, .ref (F.1 110)), (1, .ref (F.1 0)), (0, .ref b)]) [2, 3, 4, 5, 6] rfl ?_
    exact kk _ hI hrK
  · refine z_aload_n 3 hG dL_law_1134 rfl rfl ?_
    refine z_iconst 0 hG dL_law_1135 ?_
    refine z_lald (v := v) hG (zltL hL (by decide)) (zl129 hL) (by decide) (by decide) (h1 q) dL_law_1136 ?_
    refine z_iload 0 hG dL_law_1137 rfl ?_
    refine z_i2l hG dL_law_1139 hv ?_
    refine z_lcmpe hG dL_law_1140 ?_
    refine z_if_eq (tgt := 1146) hG dL_law_1141 (by decide) (by decide) (fun _ => ?_) (fun q9 => absurd rfl q9)
    refine z_goto (tgt := 1759) hG dL_law_1146 (by decide) ?_
    refine z_perm (lv' := [(4, .int (zI i)), (3, .ref (F.1 129)), (2, .ref (F.1 110)), (1, .ref (F.1 0)), (0, .ref b)]) [2, 3, 4, 5, 6] rfl ?_
    exact kk _ hI hrK
set_option maxRecDepth 100000 in
set_option maxHeartbeats 8000000 in
theorem w_L_uses {G : zCx} {F : zFr} {I : zStore} {cells slots b L : Nat} {xs : Nat → Int32} {i : Int} {rmG : Room} {Inv : zStore → Prop} (hG : zOK G "LineLearnerLaw" cL_law 9) (hS0 : zScr G b L xs) (hR : zRoom G rmG) (hfr : 12 ≤ rmG.frames) (hlo : 428 ≤ rmG.locals) (hce : cells + 4 ≤ rmG.cells) (hsl : slots + 1400 ≤ rmG.slots) (hL : zLayL F) (hL2 : L ≤ 2048) (hi : 0 ≤ i ∧ i + 4 ≤ L)
    (hW : ∀ (l : Launch) (D : va_G) (cs : Nat → ClassId), l.stackTraces = false → zMh l yL_uses cL_uses 4 (some .int) [(0, 9, 12, 25)] rm_L_uses D cs F I [.ref (F.1 0), .int (zI (zsc xs (i + 1))), .ref (F.1 129)] (fun r J => ∃ k : Int, r = some (.int (zI k)) ∧ (0 ≤ k ∧ k ≤ 2) ∧ zPs yX4_uses cX4_uses 2 (some .int) rm_X4_uses F [.int (zI (zsc xs (i + 1)))] false Inv k J))
    (kk : ∀ K, Inv K → zRg K → zW G F (cells + 1 + 0) (slots + 6 + 0) K [(4, .int (zI i)), (3, .ref (F.1 129)), (2, .ref (F.1 110)), (1, .ref (F.1 0)), (0, .ref b)] [] 1759) : zW G F cells slots I [(4, .int (zI i)), (3, .ref (F.1 129)), (2, .ref (F.1 110)), (1, .ref (F.1 0)), (0, .ref b)] [] 1149 := by
  refine z_aload_n 3 hG dL_law_1149 rfl rfl ?_
  refine z_aload_n 4 hG dL_law_1150 rfl rfl ?_
  refine z_iload 0 hG dL_law_1151 rfl ?_
  refine z_iconst 1 hG dL_law_1153 ?_
  refine z_iadd hG dL_law_1154 ?_
  refine z_sal hG hS0 hL2 (by omega) dL_law_1155 ?_
  refine z_aload_n 1 hG dL_law_1156 rfl rfl ?_
  refine z_callSH [.ref (F.1 0), .int (zI (zsc xs (i + 1))), .ref (F.1 129)] hG hR hW hd_L_uses kw576 kw577 (by show 9 ≤ _; omega) (by show 147 ≤ _; omega) (by show cells + 1 ≤ _; omega) (by show slots + 6 ≤ _; omega) rfl rfl (Nat.le_of_ble_eq_true rfl) dL_law_1157 (fun r I1 hq => ?_)
  obtain ⟨k, rfl, hk, post, hM, hp⟩ := hq
  show zW G F (cells + 1) (slots + 6) I1 [(4, .int (zI i)), (3, .ref (F.1 129)), (2, .ref (F.1 110)), (1, .ref (F.1 0)), (0, .ref b)] [.int (zI k)] 1160
  refine z_istore (lv' := [(5, .int (zI k)), (4, .int (zI i)), (3, .ref (F.1 129)), (2, .ref (F.1 110)), (1, .ref (F.1 0)), (0, .ref b)]) hG dL_law_1160 (by decide) rfl ?_
  refine z_aload_n 3 hG dL_law_1162 rfl rfl ?_
  refine z_aload_n 5 hG dL_law_1163 rfl rfl ?_
  refine z_iload 1 hG dL_law_1164 rfl ?_
  refine z_iconst 1 hG dL_law_1166 ?_
  refine z_iadd hG dL_law_1167 ?_
  refine z_sal hG hS0 hL2 (by omega) dL_law_1168 ?_
  refine z_callV [.int (zI (zsc xs (i + 1)))] hG hR hM hd_X4_uses kw914 kw915 kw916 rfl (zltL hL (by decide)) (zl110 hL.m) (by show 4 ≤ _; omega) (by show 89 ≤ _; omega) (by show cells + 1 + 0 ≤ _; omega) (by show slots + 6 + 0 ≤ _; omega) rfl rfl (Nat.le_of_ble_eq_true rfl) dL_law_1169 (fun r K hq => ?_)
  obtain ⟨v, rfl, hv, hb, h0, h1, hrK, hI⟩ := hp r K hq
  show zW G F (cells + 1 + 0) (slots + 6 + 0) K [(5, .int (zI k)), (4, .int (zI i)), (3, .ref (F.1 129)), (2, .ref (F.1 110)), (1, .ref (F.1 0)), (0, .ref b)] [.int (zI v)] 1172
  refine z_istore (lv' := [(6, .int (zI v)), (5, .int (zI k)), (4, .int (zI i)), (3, .ref (F.1 129)), (2, .ref (F.1 110)), (1, .ref (F.1 0)), (0, .ref b)]) hG dL_law_1172 (by decide) rfl ?_
  refine z_aload_n 4 hG dL_law_1174 rfl rfl ?_
  refine z_callV [] hG hR (c_X4_thrown hL.m hrK) hd_X4_thrown kw759 kw760 kw761 rfl (zltL hL (by decide)) (zl110 hL.m) (by show 1 ≤ _; omega) (by show 20 ≤ _; omega) (by show cells + 1 + 0 ≤ _; omega) (by show slots + 6 + 0 ≤ _; omega) rfl rfl (Nat.le_of_ble_eq_true rfl) dL_law_1175 (fun r K2 hq => ?_)
  rw [hq.1, hq.2, h0]
  show zW G F (cells + 1 + 0) (slots + 6 + 0) K [(6, .int (zI v)), (5, .int (zI k)), (4, .int (zI i)), (3, .ref (F.1 129)), (2, .ref (F.1 110)), (1, .ref (F.1 0)), (0, .ref b)] [.int (zI k)] 1178
  refine z_iload 1 hG dL_law_1178 rfl ?_
  refine z_icmp_eq (tgt := 1185) hG dL_law_1180 (by decide) (by omega) (by omega) (fun _ => ?_) (fun q => absurd rfl q)
  refine z_iload 1 hG dL_law_1185 rfl ?_
  refine z_if_ne (tgt := 1202) hG dL_law_1187 (by decide) (by omega) (fun q => ?_) (fun q => ?_)
  · refine z_goto (tgt := 1759) hG dL_law_1202 (by decide) ?_
    refine z_perm (lv' := [(4, .int (zI i)), (3, .ref (F.1 129)), (2, .ref (F.1 110)), (1, .ref (F.1 0)), (0, .ref b)]) [2, 3, 4, 5, 6] rfl ?_
    exact kk _ hI hrK
  · refine z_aload_n 3 hG dL_law_1190 rfl rfl ?_
    refine z_iconst 0 hG dL_law_1191 ?_
    refine z_lald (v := v) hG (zltL hL (by decide)) (zl129 hL) (by decide) (by decide) (h1 q) dL_law_1192 ?_
    refine z_iload 0 hG dL_law_1193 rfl ?_
    refine z_i2l hG dL_law_1195 hv ?_
    refine z_lcmpe hG dL_law_1196 ?_
    refine z_if_eq (tgt := 1202) hG dL_law_1197 (by decide) (by decide) (fun _ => ?_) (fun q9 => absurd rfl q9)
    refine z_goto (tgt := 1759) hG dL_law_1202 (by decide) ?_
    refine z_perm (lv' := [(4, .int (zI i)), (3, .ref (F.1 129)), (2, .ref (F.1 110)), (1, .ref (F.1 0)), (0, .ref b)]) [2, 3, 4, 5, 6] rfl ?_
    exact kk _ hI hrK
set_option maxRecDepth 100000 in
set_option maxHeartbeats 8000000 in
theorem w_L_isOptional {G : zCx} {F : zFr} {I : zStore} {cells slots b L : Nat} {xs : Nat → Int32} {i : Int} {rmG : Room} {Inv : zStore → Prop} (hG : zOK G "LineLearnerLaw" cL_law 9) (hS0 : zScr G b L xs) (hR : zRoom G rmG) (hfr : 12 ≤ rmG.frames) (hlo : 428 ≤ rmG.locals) (hce : cells + 4 ≤ rmG.cells) (hsl : slots + 1400 ≤ rmG.slots) (hL : zLayL F) (hL2 : L ≤ 2048) (hi : 0 ≤ i ∧ i + 4 ≤ L)
    (hW : ∀ (l : Launch) (D : va_G) (cs : Nat → ClassId), l.stackTraces = false → zMh l yL_isOptional cL_isOptional 4 (some .int) [(0, 16, 19, 25)] rm_L_isOptional D cs F I [.ref (F.1 0), .int (zI (zsc xs (i + 1))), .ref (F.1 129)] (fun r J => ∃ k : Int, r = some (.int (zI k)) ∧ (0 ≤ k ∧ k ≤ 2) ∧ zPs yX4_isOptional cX4_isOptional 2 (some .boolean) rm_X4_isOptional F [.int (zI (zsc xs (i + 1)))] true Inv k J))
    (kk : ∀ K, Inv K → zRg K → zW G F (cells + 1 + 0) (slots + 6 + 0) K [(4, .int (zI i)), (3, .ref (F.1 129)), (2, .ref (F.1 110)), (1, .ref (F.1 0)), (0, .ref b)] [] 1759) : zW G F cells slots I [(4, .int (zI i)), (3, .ref (F.1 129)), (2, .ref (F.1 110)), (1, .ref (F.1 0)), (0, .ref b)] [] 1205 := by
  refine z_aload_n 3 hG dL_law_1205 rfl rfl ?_
  refine z_aload_n 4 hG dL_law_1206 rfl rfl ?_
  refine z_iload 0 hG dL_law_1207 rfl ?_
  refine z_iconst 1 hG dL_law_1209 ?_
  refine z_iadd hG dL_law_1210 ?_
  refine z_sal hG hS0 hL2 (by omega) dL_law_1211 ?_
  refine z_aload_n 1 hG dL_law_1212 rfl rfl ?_
  refine z_callSH [.ref (F.1 0), .int (zI (zsc xs (i + 1))), .ref (F.1 129)] hG hR hW hd_L_isOptional kw583 kw584 (by show 9 ≤ _; omega) (by show 147 ≤ _; omega) (by show cells + 1 ≤ _; omega) (by show slots + 6 ≤ _; omega) rfl rfl (Nat.le_of_ble_eq_true rfl) dL_law_1213 (fun r I1 hq => ?_)
  obtain ⟨k, rfl, hk, post, hM, hp⟩ := hq
  show zW G F (cells + 1) (slots + 6) I1 [(4, .int (zI i)), (3, .ref (F.1 129)), (2, .ref (F.1 110)), (1, .ref (F.1 0)), (0, .ref b)] [.int (zI k)] 1216
  refine z_istore (lv' := [(5, .int (zI k)), (4, .int (zI i)), (3, .ref (F.1 129)), (2, .ref (F.1 110)), (1, .ref (F.1 0)), (0, .ref b)]) hG dL_law_1216 (by decide) rfl ?_
  refine z_aload_n 3 hG dL_law_1218 rfl rfl ?_
  refine z_aload_n 5 hG dL_law_1219 rfl rfl ?_
  refine z_iload 1 hG dL_law_1220 rfl ?_
  refine z_iconst 1 hG dL_law_1222 ?_
  refine z_iadd hG dL_law_1223 ?_
  refine z_sal hG hS0 hL2 (by omega) dL_law_1224 ?_
  refine z_callV [.int (zI (zsc xs (i + 1)))] hG hR hM hd_X4_isOptional kw918 kw919 kw920 rfl (zltL hL (by decide)) (zl110 hL.m) (by show 5 ≤ _; omega) (by show 111 ≤ _; omega) (by show cells + 1 + 0 ≤ _; omega) (by show slots + 6 + 0 ≤ _; omega) rfl rfl (Nat.le_of_ble_eq_true rfl) dL_law_1225 (fun r K hq => ?_)
  obtain ⟨v, rfl, hv, hb, h0, h1, hrK, hI⟩ := hp r K hq
  show zW G F (cells + 1 + 0) (slots + 6 + 0) K [(5, .int (zI k)), (4, .int (zI i)), (3, .ref (F.1 129)), (2, .ref (F.1 110)), (1, .ref (F.1 0)), (0, .ref b)] [.int (zI v)] 1228
  refine z_istore (lv' := [(6, .int (zI v)), (5, .int (zI k)), (4, .int (zI i)), (3, .ref (F.1 129)), (2, .ref (F.1 110)), (1, .ref (F.1 0)), (0, .ref b)]) hG dL_law_1228 (by decide) rfl ?_
  refine z_aload_n 4 hG dL_law_1230 rfl rfl ?_
  refine z_callV [] hG hR (c_X4_thrown hL.m hrK) hd_X4_thrown kw759 kw760 kw761 rfl (zltL hL (by decide)) (zl110 hL.m) (by show 1 ≤ _; omega) (by show 20 ≤ _; omega) (by show cells + 1 + 0 ≤ _; omega) (by show slots + 6 + 0 ≤ _; omega) rfl rfl (Nat.le_of_ble_eq_true rfl) dL_law_1231 (fun r K2 hq => ?_)
  rw [hq.1, hq.2, h0]
  show zW G F (cells + 1 + 0) (slots + 6 + 0) K [(6, .int (zI v)), (5, .int (zI k)), (4, .int (zI i)), (3, .ref (F.1 129)), (2, .ref (F.1 110)), (1, .ref (F.1 0)), (0, .ref b)] [.int (zI k)] 1234
  refine z_iload 1 hG dL_law_1234 rfl ?_
  refine z_icmp_eq (tgt := 1241) hG dL_law_1236 (by decide) (by omega) (by omega) (fun _ => ?_) (fun q => absurd rfl q)
  refine z_iload 1 hG dL_law_1241 rfl ?_
  refine z_if_ne (tgt := 1265) hG dL_law_1243 (by decide) (by omega) (fun q => ?_) (fun q => ?_)
  · refine z_goto (tgt := 1759) hG dL_law_1265 (by decide) ?_
    refine z_perm (lv' := [(4, .int (zI i)), (3, .ref (F.1 129)), (2, .ref (F.1 110)), (1, .ref (F.1 0)), (0, .ref b)]) [2, 3, 4, 5, 6] rfl ?_
    exact kk _ hI hrK
  · refine z_aload_n 3 hG dL_law_1246 rfl rfl ?_
    refine z_iconst 0 hG dL_law_1247 ?_
    refine z_lald (v := v) hG (zltL hL (by decide)) (zl129 hL) (by decide) (by decide) (h1 q) dL_law_1248 ?_
    refine z_iload 0 hG dL_law_1249 rfl ?_
    refine z_if_eq (tgt := 1258) hG dL_law_1251 (by decide) hv (fun e => ?_) (fun e => ?_)
    · rw [e]
      refine z_lconst 0 hG dL_law_1258 rfl ?_
      refine z_lcmpe hG dL_law_1259 ?_
      refine z_if_eq (tgt := 1265) hG dL_law_1260 (by decide) (by decide) (fun _ => ?_) (fun q9 => absurd rfl q9)
      refine z_goto (tgt := 1759) hG dL_law_1265 (by decide) ?_
      refine z_perm (lv' := [(4, .int (zI i)), (3, .ref (F.1 129)), (2, .ref (F.1 110)), (1, .ref (F.1 0)), (0, .ref b)]) [2, 3, 4, 5, 6] rfl ?_
      exact kk _ hI hrK
    · have e1 : v = 1 := by
        have := hb rfl
        omega
      rw [e1]
      refine z_lconst 1 hG dL_law_1254 rfl ?_
      refine z_goto (tgt := 1259) hG dL_law_1255 (by decide) ?_
      refine z_lcmpe hG dL_law_1259 ?_
      refine z_if_eq (tgt := 1265) hG dL_law_1260 (by decide) (by decide) (fun _ => ?_) (fun q9 => absurd rfl q9)
      refine z_goto (tgt := 1759) hG dL_law_1265 (by decide) ?_
      refine z_perm (lv' := [(4, .int (zI i)), (3, .ref (F.1 129)), (2, .ref (F.1 110)), (1, .ref (F.1 0)), (0, .ref b)]) [2, 3, 4, 5, 6] rfl ?_
      exact kk _ hI hrK
set_option maxRecDepth 100000 in
set_option maxHeartbeats 8000000 in
theorem w_L_tokenAt {G : zCx} {F : zFr} {I : zStore} {cells slots b L : Nat} {xs : Nat → Int32} {i : Int} {rmG : Room} {Inv : zStore → Prop} (hG : zOK G "LineLearnerLaw" cL_law 9) (hS0 : zScr G b L xs) (hR : zRoom G rmG) (hfr : 12 ≤ rmG.frames) (hlo : 428 ≤ rmG.locals) (hce : cells + 4 ≤ rmG.cells) (hsl : slots + 1400 ≤ rmG.slots) (hL : zLayL F) (hL2 : L ≤ 2048) (hi : 0 ≤ i ∧ i + 4 ≤ L)
    (hW : ∀ (l : Launch) (D : va_G) (cs : Nat → ClassId), l.stackTraces = false → zMh l yL_tokenAt cL_tokenAt 5 (some .int) [(0, 10, 13, 25)] rm_L_tokenAt D cs F I [.ref (F.1 0), .int (zI (zsc xs (i + 1))), .int (zI (zsc xs (i + 2))), .ref (F.1 129)] (fun r J => ∃ k : Int, r = some (.int (zI k)) ∧ (0 ≤ k ∧ k ≤ 2) ∧ zPs yX4_tokenAt cX4_tokenAt 3 (some .int) rm_X4_tokenAt F [.int (zI (zsc xs (i + 1))), .int (zI (zsc xs (i + 2)))] false Inv k J))
    (kk : ∀ K, Inv K → zRg K → zW G F (cells + 2 + 0) (slots + 12 + 0) K [(4, .int (zI i)), (3, .ref (F.1 129)), (2, .ref (F.1 110)), (1, .ref (F.1 0)), (0, .ref b)] [] 1759) : zW G F cells slots I [(4, .int (zI i)), (3, .ref (F.1 129)), (2, .ref (F.1 110)), (1, .ref (F.1 0)), (0, .ref b)] [] 1268 := by
  refine z_aload_n 3 hG dL_law_1268 rfl rfl ?_
  refine z_aload_n 4 hG dL_law_1269 rfl rfl ?_
  refine z_iload 0 hG dL_law_1270 rfl ?_
  refine z_iconst 1 hG dL_law_1272 ?_
  refine z_iadd hG dL_law_1273 ?_
  refine z_sal hG hS0 hL2 (by omega) dL_law_1274 ?_
  refine z_aload_n 4 hG dL_law_1275 rfl rfl ?_
  refine z_iload 0 hG dL_law_1276 rfl ?_
  refine z_iconst 2 hG dL_law_1278 ?_
  refine z_iadd hG dL_law_1279 ?_
  refine z_sal hG hS0 hL2 (by omega) dL_law_1280 ?_
  refine z_aload_n 1 hG dL_law_1281 rfl rfl ?_
  refine z_callSH [.ref (F.1 0), .int (zI (zsc xs (i + 1))), .int (zI (zsc xs (i + 2))), .ref (F.1 129)] hG hR hW hd_L_tokenAt kw590 kw591 (by show 9 ≤ _; omega) (by show 149 ≤ _; omega) (by show cells + 2 ≤ _; omega) (by show slots + 12 ≤ _; omega) rfl rfl (Nat.le_of_ble_eq_true rfl) dL_law_1282 (fun r I1 hq => ?_)
  obtain ⟨k, rfl, hk, post, hM, hp⟩ := hq
  show zW G F (cells + 2) (slots + 12) I1 [(4, .int (zI i)), (3, .ref (F.1 129)), (2, .ref (F.1 110)), (1, .ref (F.1 0)), (0, .ref b)] [.int (zI k)] 1285
  refine z_istore (lv' := [(5, .int (zI k)), (4, .int (zI i)), (3, .ref (F.1 129)), (2, .ref (F.1 110)), (1, .ref (F.1 0)), (0, .ref b)]) hG dL_law_1285 (by decide) rfl ?_
  refine z_aload_n 3 hG dL_law_1287 rfl rfl ?_
  refine z_aload_n 5 hG dL_law_1288 rfl rfl ?_
  refine z_iload 1 hG dL_law_1289 rfl ?_
  refine z_iconst 1 hG dL_law_1291 ?_
  refine z_iadd hG dL_law_1292 ?_
  refine z_sal hG hS0 hL2 (by omega) dL_law_1293 ?_
  refine z_aload_n 5 hG dL_law_1294 rfl rfl ?_
  refine z_iload 1 hG dL_law_1295 rfl ?_
  refine z_iconst 2 hG dL_law_1297 ?_
  refine z_iadd hG dL_law_1298 ?_
  refine z_sal hG hS0 hL2 (by omega) dL_law_1299 ?_
  refine z_callV [.int (zI (zsc xs (i + 1))), .int (zI (zsc xs (i + 2)))] hG hR hM hd_X4_tokenAt kw922 kw923 kw924 rfl (zltL hL (by decide)) (zl110 hL.m) (by show 3 ≤ _; omega) (by show 66 ≤ _; omega) (by show cells + 2 + 0 ≤ _; omega) (by show slots + 12 + 0 ≤ _; omega) rfl rfl (Nat.le_of_ble_eq_true rfl) dL_law_1300 (fun r K hq => ?_)
  obtain ⟨v, rfl, hv, hb, h0, h1, hrK, hI⟩ := hp r K hq
  show zW G F (cells + 2 + 0) (slots + 12 + 0) K [(5, .int (zI k)), (4, .int (zI i)), (3, .ref (F.1 129)), (2, .ref (F.1 110)), (1, .ref (F.1 0)), (0, .ref b)] [.int (zI v)] 1303
  refine z_istore (lv' := [(6, .int (zI v)), (5, .int (zI k)), (4, .int (zI i)), (3, .ref (F.1 129)), (2, .ref (F.1 110)), (1, .ref (F.1 0)), (0, .ref b)]) hG dL_law_1303 (by decide) rfl ?_
  refine z_aload_n 4 hG dL_law_1305 rfl rfl ?_
  refine z_callV [] hG hR (c_X4_thrown hL.m hrK) hd_X4_thrown kw759 kw760 kw761 rfl (zltL hL (by decide)) (zl110 hL.m) (by show 1 ≤ _; omega) (by show 20 ≤ _; omega) (by show cells + 2 + 0 ≤ _; omega) (by show slots + 12 + 0 ≤ _; omega) rfl rfl (Nat.le_of_ble_eq_true rfl) dL_law_1306 (fun r K2 hq => ?_)
  rw [hq.1, hq.2, h0]
  show zW G F (cells + 2 + 0) (slots + 12 + 0) K [(6, .int (zI v)), (5, .int (zI k)), (4, .int (zI i)), (3, .ref (F.1 129)), (2, .ref (F.1 110)), (1, .ref (F.1 0)), (0, .ref b)] [.int (zI k)] 1309
  refine z_iload 1 hG dL_law_1309 rfl ?_
  refine z_icmp_eq (tgt := 1316) hG dL_law_1311 (by decide) (by omega) (by omega) (fun _ => ?_) (fun q => absurd rfl q)
  refine z_iload 1 hG dL_law_1316 rfl ?_
  refine z_if_ne (tgt := 1333) hG dL_law_1318 (by decide) (by omega) (fun q => ?_) (fun q => ?_)
  · refine z_goto (tgt := 1759) hG dL_law_1333 (by decide) ?_
    refine z_perm (lv' := [(4, .int (zI i)), (3, .ref (F.1 129)), (2, .ref (F.1 110)), (1, .ref (F.1 0)), (0, .ref b)]) [2, 3, 4, 5, 6] rfl ?_
    exact kk _ hI hrK
  · refine z_aload_n 3 hG dL_law_1321 rfl rfl ?_
    refine z_iconst 0 hG dL_law_1322 ?_
    refine z_lald (v := v) hG (zltL hL (by decide)) (zl129 hL) (by decide) (by decide) (h1 q) dL_law_1323 ?_
    refine z_iload 0 hG dL_law_1324 rfl ?_
    refine z_i2l hG dL_law_1326 hv ?_
    refine z_lcmpe hG dL_law_1327 ?_
    refine z_if_eq (tgt := 1333) hG dL_law_1328 (by decide) (by decide) (fun _ => ?_) (fun q9 => absurd rfl q9)
    refine z_goto (tgt := 1759) hG dL_law_1333 (by decide) ?_
    refine z_perm (lv' := [(4, .int (zI i)), (3, .ref (F.1 129)), (2, .ref (F.1 110)), (1, .ref (F.1 0)), (0, .ref b)]) [2, 3, 4, 5, 6] rfl ?_
    exact kk _ hI hrK
set_option maxRecDepth 100000 in
set_option maxHeartbeats 8000000 in
theorem w_L_numberAt {G : zCx} {F : zFr} {I : zStore} {cells slots b L : Nat} {xs : Nat → Int32} {i : Int} {rmG : Room} {Inv : zStore → Prop} (hG : zOK G "LineLearnerLaw" cL_law 9) (hS0 : zScr G b L xs) (hR : zRoom G rmG) (hfr : 12 ≤ rmG.frames) (hlo : 428 ≤ rmG.locals) (hce : cells + 4 ≤ rmG.cells) (hsl : slots + 1400 ≤ rmG.slots) (hL : zLayL F) (hL2 : L ≤ 2048) (hi : 0 ≤ i ∧ i + 4 ≤ L)
    (hW : ∀ (l : Launch) (D : va_G) (cs : Nat → ClassId), l.stackTraces = false → zMh l yL_numberAt cL_numberAt 5 (some .int) [(0, 10, 13, 25)] rm_L_numberAt D cs F I [.ref (F.1 0), .int (zI (zsc xs (i + 1))), .int (zI (zsc xs (i + 2))), .ref (F.1 129)] (fun r J => ∃ k : Int, r = some (.int (zI k)) ∧ (0 ≤ k ∧ k ≤ 2) ∧ zPs yX4_numberAt cX4_numberAt 3 (some .int) rm_X4_numberAt F [.int (zI (zsc xs (i + 1))), .int (zI (zsc xs (i + 2)))] false Inv k J))
    (kk : ∀ K, Inv K → zRg K → zW G F (cells + 2 + 0) (slots + 12 + 0) K [(4, .int (zI i)), (3, .ref (F.1 129)), (2, .ref (F.1 110)), (1, .ref (F.1 0)), (0, .ref b)] [] 1759) : zW G F cells slots I [(4, .int (zI i)), (3, .ref (F.1 129)), (2, .ref (F.1 110)), (1, .ref (F.1 0)), (0, .ref b)] [] 1336 := by
  refine z_aload_n 3 hG dL_law_1336 rfl rfl ?_
  refine z_aload_n 4 hG dL_law_1337 rfl rfl ?_
  refine z_iload 0 hG dL_law_1338 rfl ?_
  refine z_iconst 1 hG dL_law_1340 ?_
  refine z_iadd hG dL_law_1341 ?_
  refine z_sal hG hS0 hL2 (by omega) dL_law_1342 ?_
  refine z_aload_n 4 hG dL_law_1343 rfl rfl ?_
  refine z_iload 0 hG dL_law_1344 rfl ?_
  refine z_iconst 2 hG dL_law_1346 ?_
  refine z_iadd hG dL_law_1347 ?_
  refine z_sal hG hS0 hL2 (by omega) dL_law_1348 ?_
  refine z_aload_n 1 hG dL_law_1349 rfl rfl ?_
  refine z_callSH [.ref (F.1 0), .int (zI (zsc xs (i + 1))), .int (zI (zsc xs (i + 2))), .ref (F.1 129)] hG hR hW hd_L_numberAt kw601 kw602 (by show 9 ≤ _; omega) (by show 149 ≤ _; omega) (by show cells + 2 ≤ _; omega) (by show slots + 12 ≤ _; omega) rfl rfl (Nat.le_of_ble_eq_true rfl) dL_law_1350 (fun r I1 hq => ?_)
  obtain ⟨k, rfl, hk, post, hM, hp⟩ := hq
  show zW G F (cells + 2) (slots + 12) I1 [(4, .int (zI i)), (3, .ref (F.1 129)), (2, .ref (F.1 110)), (1, .ref (F.1 0)), (0, .ref b)] [.int (zI k)] 1353
  refine z_istore (lv' := [(5, .int (zI k)), (4, .int (zI i)), (3, .ref (F.1 129)), (2, .ref (F.1 110)), (1, .ref (F.1 0)), (0, .ref b)]) hG dL_law_1353 (by decide) rfl ?_
  refine z_aload_n 3 hG dL_law_1355 rfl rfl ?_
  refine z_aload_n 5 hG dL_law_1356 rfl rfl ?_
  refine z_iload 1 hG dL_law_1357 rfl ?_
  refine z_iconst 1 hG dL_law_1359 ?_
  refine z_iadd hG dL_law_1360 ?_
  refine z_sal hG hS0 hL2 (by omega) dL_law_1361 ?_
  refine z_aload_n 5 hG dL_law_1362 rfl rfl ?_
  refine z_iload 1 hG dL_law_1363 rfl ?_
  refine z_iconst 2 hG dL_law_1365 ?_
  refine z_iadd hG dL_law_1366 ?_
  refine z_sal hG hS0 hL2 (by omega) dL_law_1367 ?_
  refine z_callV [.int (zI (zsc xs (i + 1))), .int (zI (zsc xs (i + 2)))] hG hR hM hd_X4_numberAt kw926 kw927 kw928 rfl (zltL hL (by decide)) (zl110 hL.m) (by show 4 ≤ _; omega) (by show 92 ≤ _; omega) (by show cells + 2 + 0 ≤ _; omega) (by show slots + 12 + 0 ≤ _; omega) rfl rfl (Nat.le_of_ble_eq_true rfl) dL_law_1368 (fun r K hq => ?_)
  obtain ⟨v, rfl, hv, hb, h0, h1, hrK, hI⟩ := hp r K hq
  show zW G F (cells + 2 + 0) (slots + 12 + 0) K [(5, .int (zI k)), (4, .int (zI i)), (3, .ref (F.1 129)), (2, .ref (F.1 110)), (1, .ref (F.1 0)), (0, .ref b)] [.int (zI v)] 1371
  refine z_istore (lv' := [(6, .int (zI v)), (5, .int (zI k)), (4, .int (zI i)), (3, .ref (F.1 129)), (2, .ref (F.1 110)), (1, .ref (F.1 0)), (0, .ref b)]) hG dL_law_1371 (by decide) rfl ?_
  refine z_aload_n 4 hG dL_law_1373 rfl rfl ?_
  refine z_callV [] hG hR (c_X4_thrown hL.m hrK) hd_X4_thrown kw759 kw760 kw761 rfl (zltL hL (by decide)) (zl110 hL.m) (by show 1 ≤ _; omega) (by show 20 ≤ _; omega) (by show cells + 2 + 0 ≤ _; omega) (by show slots + 12 + 0 ≤ _; omega) rfl rfl (Nat.le_of_ble_eq_true rfl) dL_law_1374 (fun r K2 hq => ?_)
  rw [hq.1, hq.2, h0]
  show zW G F (cells + 2 + 0) (slots + 12 + 0) K [(6, .int (zI v)), (5, .int (zI k)), (4, .int (zI i)), (3, .ref (F.1 129)), (2, .ref (F.1 110)), (1, .ref (F.1 0)), (0, .ref b)] [.int (zI k)] 1377
  refine z_iload 1 hG dL_law_1377 rfl ?_
  refine z_icmp_eq (tgt := 1384) hG dL_law_1379 (by decide) (by omega) (by omega) (fun _ => ?_) (fun q => absurd rfl q)
  refine z_iload 1 hG dL_law_1384 rfl ?_
  refine z_if_ne (tgt := 1401) hG dL_law_1386 (by decide) (by omega) (fun q => ?_) (fun q => ?_)
  · refine z_goto (tgt := 1759) hG dL_law_1401 (by decide) ?_
    refine z_perm (lv' := [(4, .int (zI i)), (3, .ref (F.1 129)), (2, .ref (F.1 110)), (1, .ref (F.1 0)), (0, .ref b)]) [2, 3, 4, 5, 6] rfl ?_
    exact kk _ hI hrK
  · refine z_aload_n 3 hG dL_law_1389 rfl rfl ?_
    refine z_iconst 0 hG dL_law_1390 ?_
    refine z_lald (v := v) hG (zltL hL (by decide)) (zl129 hL) (by decide) (by decide) (h1 q) dL_law_1391 ?_
    refine z_iload 0 hG dL_law_1392 rfl ?_
    refine z_i2l hG dL_law_1394 hv ?_
    refine z_lcmpe hG dL_law_1395 ?_
    refine z_if_eq (tgt := 1401) hG dL_law_1396 (by decide) (by decide) (fun _ => ?_) (fun q9 => absurd rfl q9)
    refine z_goto (tgt := 1759) hG dL_law_1401 (by decide) ?_
    refine z_perm (lv' := [(4, .int (zI i)), (3, .ref (F.1 129)), (2, .ref (F.1 110)), (1, .ref (F.1 0)), (0, .ref b)]) [2, 3, 4, 5, 6] rfl ?_
    exact kk _ hI hrK
set_option maxRecDepth 100000 in
set_option maxHeartbeats 8000000 in
theorem w_L_distinct {G : zCx} {F : zFr} {I : zStore} {cells slots b L : Nat} {xs : Nat → Int32} {i : Int} {rmG : Room} {Inv : zStore → Prop} (hG : zOK G "LineLearnerLaw" cL_law 9) (hS0 : zScr G b L xs) (hR : zRoom G rmG) (hfr : 12 ≤ rmG.frames) (hlo : 428 ≤ rmG.locals) (hce : cells + 4 ≤ rmG.cells) (hsl : slots + 1400 ≤ rmG.slots) (hL : zLayL F) (hL2 : L ≤ 2048) (hi : 0 ≤ i ∧ i + 4 ≤ L)
    (hW : ∀ (l : Launch) (D : va_G) (cs : Nat → ClassId), l.stackTraces = false → zMh l yL_distinct cL_distinct 4 (some .int) [(0, 9, 12, 25)] rm_L_distinct D cs F I [.ref (F.1 0), .int (zI (zsc xs (i + 1))), .ref (F.1 129)] (fun r J => ∃ k : Int, r = some (.int (zI k)) ∧ (0 ≤ k ∧ k ≤ 2) ∧ zPs yX4_distinct cX4_distinct 6 (some .int) rm_X4_distinct F [.int (zI (zsc xs (i + 1)))] false Inv k J))
    (kk : ∀ K, Inv K → zRg K → zW G F (cells + 1 + 0) (slots + 6 + 0) K [(4, .int (zI i)), (3, .ref (F.1 129)), (2, .ref (F.1 110)), (1, .ref (F.1 0)), (0, .ref b)] [] 1759) : zW G F cells slots I [(4, .int (zI i)), (3, .ref (F.1 129)), (2, .ref (F.1 110)), (1, .ref (F.1 0)), (0, .ref b)] [] 1404 := by
  refine z_aload_n 3 hG dL_law_1404 rfl rfl ?_
  refine z_aload_n 4 hG dL_law_1405 rfl rfl ?_
  refine z_iload 0 hG dL_law_1406 rfl ?_
  refine z_iconst 1 hG dL_law_1408 ?_
  refine z_iadd hG dL_law_1409 ?_
  refine z_sal hG hS0 hL2 (by omega) dL_law_1410 ?_
  refine z_aload_n 1 hG dL_law_1411 rfl rfl ?_
  refine z_callSH [.ref (F.1 0), .int (zI (zsc xs (i + 1))), .ref (F.1 129)] hG hR hW hd_L_distinct kw617 kw618 (by show 9 ≤ _; omega) (by show 151 ≤ _; omega) (by show cells + 1 ≤ _; omega) (by show slots + 6 ≤ _; omega) rfl rfl (Nat.le_of_ble_eq_true rfl) dL_law_1412 (fun r I1 hq => ?_)
  obtain ⟨k, rfl, hk, post, hM, hp⟩ := hq
  show zW G F (cells + 1) (slots + 6) I1 [(4, .int (zI i)), (3, .ref (F.1 129)), (2, .ref (F.1 110)), (1, .ref (F.1 0)), (0, .ref b)] [.int (zI k)] 1415
  refine z_istore (lv' := [(5, .int (zI k)), (4, .int (zI i)), (3, .ref (F.1 129)), (2, .ref (F.1 110)), (1, .ref (F.1 0)), (0, .ref b)]) hG dL_law_1415 (by decide) rfl ?_
  refine z_aload_n 3 hG dL_law_1417 rfl rfl ?_
  refine z_aload_n 5 hG dL_law_1418 rfl rfl ?_
  refine z_iload 1 hG dL_law_1419 rfl ?_
  refine z_iconst 1 hG dL_law_1421 ?_
  refine z_iadd hG dL_law_1422 ?_
  refine z_sal hG hS0 hL2 (by omega) dL_law_1423 ?_
  refine z_callV [.int (zI (zsc xs (i + 1)))] hG hR hM hd_X4_distinct kw934 kw935 kw936 rfl (zltL hL (by decide)) (zl110 hL.m) (by show 3 ≤ _; omega) (by show 69 ≤ _; omega) (by show cells + 1 + 0 ≤ _; omega) (by show slots + 6 + 0 ≤ _; omega) rfl rfl (Nat.le_of_ble_eq_true rfl) dL_law_1424 (fun r K hq => ?_)
  obtain ⟨v, rfl, hv, hb, h0, h1, hrK, hI⟩ := hp r K hq
  show zW G F (cells + 1 + 0) (slots + 6 + 0) K [(5, .int (zI k)), (4, .int (zI i)), (3, .ref (F.1 129)), (2, .ref (F.1 110)), (1, .ref (F.1 0)), (0, .ref b)] [.int (zI v)] 1427
  refine z_istore (lv' := [(6, .int (zI v)), (5, .int (zI k)), (4, .int (zI i)), (3, .ref (F.1 129)), (2, .ref (F.1 110)), (1, .ref (F.1 0)), (0, .ref b)]) hG dL_law_1427 (by decide) rfl ?_
  refine z_aload_n 4 hG dL_law_1429 rfl rfl ?_
  refine z_callV [] hG hR (c_X4_thrown hL.m hrK) hd_X4_thrown kw759 kw760 kw761 rfl (zltL hL (by decide)) (zl110 hL.m) (by show 1 ≤ _; omega) (by show 20 ≤ _; omega) (by show cells + 1 + 0 ≤ _; omega) (by show slots + 6 + 0 ≤ _; omega) rfl rfl (Nat.le_of_ble_eq_true rfl) dL_law_1430 (fun r K2 hq => ?_)
  rw [hq.1, hq.2, h0]
  show zW G F (cells + 1 + 0) (slots + 6 + 0) K [(6, .int (zI v)), (5, .int (zI k)), (4, .int (zI i)), (3, .ref (F.1 129)), (2, .ref (F.1 110)), (1, .ref (F.1 0)), (0, .ref b)] [.int (zI k)] 1433
  refine z_iload 1 hG dL_law_1433 rfl ?_
  refine z_icmp_eq (tgt := 1440) hG dL_law_1435 (by decide) (by omega) (by omega) (fun _ => ?_) (fun q => absurd rfl q)
  refine z_iload 1 hG dL_law_1440 rfl ?_
  refine z_if_ne (tgt := 1457) hG dL_law_1442 (by decide) (by omega) (fun q => ?_) (fun q => ?_)
  · refine z_goto (tgt := 1759) hG dL_law_1457 (by decide) ?_
    refine z_perm (lv' := [(4, .int (zI i)), (3, .ref (F.1 129)), (2, .ref (F.1 110)), (1, .ref (F.1 0)), (0, .ref b)]) [2, 3, 4, 5, 6] rfl ?_
    exact kk _ hI hrK
  · refine z_aload_n 3 hG dL_law_1445 rfl rfl ?_
    refine z_iconst 0 hG dL_law_1446 ?_
    refine z_lald (v := v) hG (zltL hL (by decide)) (zl129 hL) (by decide) (by decide) (h1 q) dL_law_1447 ?_
    refine z_iload 0 hG dL_law_1448 rfl ?_
    refine z_i2l hG dL_law_1450 hv ?_
    refine z_lcmpe hG dL_law_1451 ?_
    refine z_if_eq (tgt := 1457) hG dL_law_1452 (by decide) (by decide) (fun _ => ?_) (fun q9 => absurd rfl q9)
    refine z_goto (tgt := 1759) hG dL_law_1457 (by decide) ?_
    refine z_perm (lv' := [(4, .int (zI i)), (3, .ref (F.1 129)), (2, .ref (F.1 110)), (1, .ref (F.1 0)), (0, .ref b)]) [2, 3, 4, 5, 6] rfl ?_
    exact kk _ hI hrK
set_option maxRecDepth 100000 in
set_option maxHeartbeats 8000000 in
theorem w_L_isRising {G : zCx} {F : zFr} {I : zStore} {cells slots b L : Nat} {xs : Nat → Int32} {i : Int} {rmG : Room} {Inv : zStore → Prop} (hG : zOK G "LineLearnerLaw" cL_law 9) (hS0 : zScr G b L xs) (hR : zRoom G rmG) (hfr : 12 ≤ rmG.frames) (hlo : 428 ≤ rmG.locals) (hce : cells + 4 ≤ rmG.cells) (hsl : slots + 1400 ≤ rmG.slots) (hL : zLayL F) (hL2 : L ≤ 2048) (hi : 0 ≤ i ∧ i + 4 ≤ L)
    (hW : ∀ (l : Launch) (D : va_G) (cs : Nat → ClassId), l.stackTraces = false → zMh l yL_isRising cL_isRising 4 (some .int) [(0, 16, 19, 25)] rm_L_isRising D cs F I [.ref (F.1 0), .int (zI (zsc xs (i + 1))), .ref (F.1 129)] (fun r J => ∃ k : Int, r = some (.int (zI k)) ∧ (0 ≤ k ∧ k ≤ 2) ∧ zPs yX4_isRising cX4_isRising 5 (some .boolean) rm_X4_isRising F [.int (zI (zsc xs (i + 1)))] true Inv k J))
    (kk : ∀ K, Inv K → zRg K → zW G F (cells + 1 + 0) (slots + 6 + 0) K [(4, .int (zI i)), (3, .ref (F.1 129)), (2, .ref (F.1 110)), (1, .ref (F.1 0)), (0, .ref b)] [] 1759) : zW G F cells slots I [(4, .int (zI i)), (3, .ref (F.1 129)), (2, .ref (F.1 110)), (1, .ref (F.1 0)), (0, .ref b)] [] 1460 := by
  refine z_aload_n 3 hG dL_law_1460 rfl rfl ?_
  refine z_aload_n 4 hG dL_law_1461 rfl rfl ?_
  refine z_iload 0 hG dL_law_1462 rfl ?_
  refine z_iconst 1 hG dL_law_1464 ?_
  refine z_iadd hG dL_law_1465 ?_
  refine z_sal hG hS0 hL2 (by omega) dL_law_1466 ?_
  refine z_aload_n 1 hG dL_law_1467 rfl rfl ?_
  refine z_callSH [.ref (F.1 0), .int (zI (zsc xs (i + 1))), .ref (F.1 129)] hG hR hW hd_L_isRising kw632 kw633 (by show 9 ≤ _; omega) (by show 151 ≤ _; omega) (by show cells + 1 ≤ _; omega) (by show slots + 6 ≤ _; omega) rfl rfl (Nat.le_of_ble_eq_true rfl) dL_law_1468 (fun r I1 hq => ?_)
  obtain ⟨k, rfl, hk, post, hM, hp⟩ := hq
  show zW G F (cells + 1) (slots + 6) I1 [(4, .int (zI i)), (3, .ref (F.1 129)), (2, .ref (F.1 110)), (1, .ref (F.1 0)), (0, .ref b)] [.int (zI k)] 1471
  refine z_istore (lv' := [(5, .int (zI k)), (4, .int (zI i)), (3, .ref (F.1 129)), (2, .ref (F.1 110)), (1, .ref (F.1 0)), (0, .ref b)]) hG dL_law_1471 (by decide) rfl ?_
  refine z_aload_n 3 hG dL_law_1473 rfl rfl ?_
  refine z_aload_n 5 hG dL_law_1474 rfl rfl ?_
  refine z_iload 1 hG dL_law_1475 rfl ?_
  refine z_iconst 1 hG dL_law_1477 ?_
  refine z_iadd hG dL_law_1478 ?_
  refine z_sal hG hS0 hL2 (by omega) dL_law_1479 ?_
  refine z_callV [.int (zI (zsc xs (i + 1)))] hG hR hM hd_X4_isRising kw938 kw939 kw940 rfl (zltL hL (by decide)) (zl110 hL.m) (by show 4 ≤ _; omega) (by show 94 ≤ _; omega) (by show cells + 1 + 0 ≤ _; omega) (by show slots + 6 + 0 ≤ _; omega) rfl rfl (Nat.le_of_ble_eq_true rfl) dL_law_1480 (fun r K hq => ?_)
  obtain ⟨v, rfl, hv, hb, h0, h1, hrK, hI⟩ := hp r K hq
  show zW G F (cells + 1 + 0) (slots + 6 + 0) K [(5, .int (zI k)), (4, .int (zI i)), (3, .ref (F.1 129)), (2, .ref (F.1 110)), (1, .ref (F.1 0)), (0, .ref b)] [.int (zI v)] 1483
  refine z_istore (lv' := [(6, .int (zI v)), (5, .int (zI k)), (4, .int (zI i)), (3, .ref (F.1 129)), (2, .ref (F.1 110)), (1, .ref (F.1 0)), (0, .ref b)]) hG dL_law_1483 (by decide) rfl ?_
  refine z_aload_n 4 hG dL_law_1485 rfl rfl ?_
  refine z_callV [] hG hR (c_X4_thrown hL.m hrK) hd_X4_thrown kw759 kw760 kw761 rfl (zltL hL (by decide)) (zl110 hL.m) (by show 1 ≤ _; omega) (by show 20 ≤ _; omega) (by show cells + 1 + 0 ≤ _; omega) (by show slots + 6 + 0 ≤ _; omega) rfl rfl (Nat.le_of_ble_eq_true rfl) dL_law_1486 (fun r K2 hq => ?_)
  rw [hq.1, hq.2, h0]
  show zW G F (cells + 1 + 0) (slots + 6 + 0) K [(6, .int (zI v)), (5, .int (zI k)), (4, .int (zI i)), (3, .ref (F.1 129)), (2, .ref (F.1 110)), (1, .ref (F.1 0)), (0, .ref b)] [.int (zI k)] 1489
  refine z_iload 1 hG dL_law_1489 rfl ?_
  refine z_icmp_eq (tgt := 1496) hG dL_law_1491 (by decide) (by omega) (by omega) (fun _ => ?_) (fun q => absurd rfl q)
  refine z_iload 1 hG dL_law_1496 rfl ?_
  refine z_if_ne (tgt := 1520) hG dL_law_1498 (by decide) (by omega) (fun q => ?_) (fun q => ?_)
  · refine z_goto (tgt := 1759) hG dL_law_1520 (by decide) ?_
    refine z_perm (lv' := [(4, .int (zI i)), (3, .ref (F.1 129)), (2, .ref (F.1 110)), (1, .ref (F.1 0)), (0, .ref b)]) [2, 3, 4, 5, 6] rfl ?_
    exact kk _ hI hrK
  · refine z_aload_n 3 hG dL_law_1501 rfl rfl ?_
    refine z_iconst 0 hG dL_law_1502 ?_
    refine z_lald (v := v) hG (zltL hL (by decide)) (zl129 hL) (by decide) (by decide) (h1 q) dL_law_1503 ?_
    refine z_iload 0 hG dL_law_1504 rfl ?_
    refine z_if_eq (tgt := 1513) hG dL_law_1506 (by decide) hv (fun e => ?_) (fun e => ?_)
    · rw [e]
      refine z_lconst 0 hG dL_law_1513 rfl ?_
      refine z_lcmpe hG dL_law_1514 ?_
      refine z_if_eq (tgt := 1520) hG dL_law_1515 (by decide) (by decide) (fun _ => ?_) (fun q9 => absurd rfl q9)
      refine z_goto (tgt := 1759) hG dL_law_1520 (by decide) ?_
      refine z_perm (lv' := [(4, .int (zI i)), (3, .ref (F.1 129)), (2, .ref (F.1 110)), (1, .ref (F.1 0)), (0, .ref b)]) [2, 3, 4, 5, 6] rfl ?_
      exact kk _ hI hrK
    · have e1 : v = 1 := by
        have := hb rfl
        omega
      rw [e1]
      refine z_lconst 1 hG dL_law_1509 rfl ?_
      refine z_goto (tgt := 1514) hG dL_law_1510 (by decide) ?_
      refine z_lcmpe hG dL_law_1514 ?_
      refine z_if_eq (tgt := 1520) hG dL_law_1515 (by decide) (by decide) (fun _ => ?_) (fun q9 => absurd rfl q9)
      refine z_goto (tgt := 1759) hG dL_law_1520 (by decide) ?_
      refine z_perm (lv' := [(4, .int (zI i)), (3, .ref (F.1 129)), (2, .ref (F.1 110)), (1, .ref (F.1 0)), (0, .ref b)]) [2, 3, 4, 5, 6] rfl ?_
      exact kk _ hI hrK
set_option maxRecDepth 100000 in
set_option maxHeartbeats 8000000 in
theorem w_L_group {G : zCx} {F : zFr} {I : zStore} {cells slots b L : Nat} {xs : Nat → Int32} {i : Int} {rmG : Room} {Inv : zStore → Prop} (hG : zOK G "LineLearnerLaw" cL_law 9) (hS0 : zScr G b L xs) (hR : zRoom G rmG) (hfr : 12 ≤ rmG.frames) (hlo : 428 ≤ rmG.locals) (hce : cells + 4 ≤ rmG.cells) (hsl : slots + 1400 ≤ rmG.slots) (hL : zLayL F) (hL2 : L ≤ 2048) (hi : 0 ≤ i ∧ i + 4 ≤ L)
    (hW : ∀ (l : Launch) (D : va_G) (cs : Nat → ClassId), l.stackTraces = false → zMh l yL_group cL_group 4 (some .int) [(0, 9, 12, 13)] rm_L_group D cs F I [.ref (F.1 0), .int (zI (zsc xs (i + 1))), .ref (F.1 129)] (fun r J => ∃ k : Int, r = some (.int (zI k)) ∧ (0 ≤ k ∧ k ≤ 2) ∧ zPs yX4_group cX4_group 7 (some .int) rm_X4_group F [.int (zI (zsc xs (i + 1)))] false Inv k J))
    (kk : ∀ K, Inv K → zRg K → zW G F (cells + 1 + 0) (slots + 6 + 0) K [(4, .int (zI i)), (3, .ref (F.1 129)), (2, .ref (F.1 110)), (1, .ref (F.1 0)), (0, .ref b)] [] 1759) : zW G F cells slots I [(4, .int (zI i)), (3, .ref (F.1 129)), (2, .ref (F.1 110)), (1, .ref (F.1 0)), (0, .ref b)] [] 1577 := by
  refine z_aload_n 3 hG dL_law_1577 rfl rfl ?_
  refine z_aload_n 4 hG dL_law_1578 rfl rfl ?_
  refine z_iload 0 hG dL_law_1579 rfl ?_
  refine z_iconst 1 hG dL_law_1581 ?_
  refine z_iadd hG dL_law_1582 ?_
  refine z_sal hG hS0 hL2 (by omega) dL_law_1583 ?_
  refine z_aload_n 1 hG dL_law_1584 rfl rfl ?_
  refine z_callSH [.ref (F.1 0), .int (zI (zsc xs (i + 1))), .ref (F.1 129)] hG hR hW hd_L_group kw639 kw640 (by show 8 ≤ _; omega) (by show 197 ≤ _; omega) (by show cells + 1 ≤ _; omega) (by show slots + 6 ≤ _; omega) rfl rfl (Nat.le_of_ble_eq_true rfl) dL_law_1585 (fun r I1 hq => ?_)
  obtain ⟨k, rfl, hk, post, hM, hp⟩ := hq
  show zW G F (cells + 1) (slots + 6) I1 [(4, .int (zI i)), (3, .ref (F.1 129)), (2, .ref (F.1 110)), (1, .ref (F.1 0)), (0, .ref b)] [.int (zI k)] 1588
  refine z_istore (lv' := [(5, .int (zI k)), (4, .int (zI i)), (3, .ref (F.1 129)), (2, .ref (F.1 110)), (1, .ref (F.1 0)), (0, .ref b)]) hG dL_law_1588 (by decide) rfl ?_
  refine z_aload_n 3 hG dL_law_1590 rfl rfl ?_
  refine z_aload_n 5 hG dL_law_1591 rfl rfl ?_
  refine z_iload 1 hG dL_law_1592 rfl ?_
  refine z_iconst 1 hG dL_law_1594 ?_
  refine z_iadd hG dL_law_1595 ?_
  refine z_sal hG hS0 hL2 (by omega) dL_law_1596 ?_
  refine z_callV [.int (zI (zsc xs (i + 1)))] hG hR hM hd_X4_group kw954 kw955 kw956 rfl (zltL hL (by decide)) (zl110 hL.m) (by show 7 ≤ _; omega) (by show 170 ≤ _; omega) (by show cells + 1 + 0 ≤ _; omega) (by show slots + 6 + 0 ≤ _; omega) rfl rfl (Nat.le_of_ble_eq_true rfl) dL_law_1597 (fun r K hq => ?_)
  obtain ⟨v, rfl, hv, hb, h0, h1, hrK, hI⟩ := hp r K hq
  show zW G F (cells + 1 + 0) (slots + 6 + 0) K [(5, .int (zI k)), (4, .int (zI i)), (3, .ref (F.1 129)), (2, .ref (F.1 110)), (1, .ref (F.1 0)), (0, .ref b)] [.int (zI v)] 1600
  refine z_istore (lv' := [(6, .int (zI v)), (5, .int (zI k)), (4, .int (zI i)), (3, .ref (F.1 129)), (2, .ref (F.1 110)), (1, .ref (F.1 0)), (0, .ref b)]) hG dL_law_1600 (by decide) rfl ?_
  refine z_aload_n 4 hG dL_law_1602 rfl rfl ?_
  refine z_callV [] hG hR (c_X4_thrown hL.m hrK) hd_X4_thrown kw759 kw760 kw761 rfl (zltL hL (by decide)) (zl110 hL.m) (by show 1 ≤ _; omega) (by show 20 ≤ _; omega) (by show cells + 1 + 0 ≤ _; omega) (by show slots + 6 + 0 ≤ _; omega) rfl rfl (Nat.le_of_ble_eq_true rfl) dL_law_1603 (fun r K2 hq => ?_)
  rw [hq.1, hq.2, h0]
  show zW G F (cells + 1 + 0) (slots + 6 + 0) K [(6, .int (zI v)), (5, .int (zI k)), (4, .int (zI i)), (3, .ref (F.1 129)), (2, .ref (F.1 110)), (1, .ref (F.1 0)), (0, .ref b)] [.int (zI k)] 1606
  refine z_iload 1 hG dL_law_1606 rfl ?_
  refine z_icmp_eq (tgt := 1613) hG dL_law_1608 (by decide) (by omega) (by omega) (fun _ => ?_) (fun q => absurd rfl q)
  refine z_iload 1 hG dL_law_1613 rfl ?_
  refine z_if_ne (tgt := 1630) hG dL_law_1615 (by decide) (by omega) (fun q => ?_) (fun q => ?_)
  · refine z_goto (tgt := 1759) hG dL_law_1630 (by decide) ?_
    refine z_perm (lv' := [(4, .int (zI i)), (3, .ref (F.1 129)), (2, .ref (F.1 110)), (1, .ref (F.1 0)), (0, .ref b)]) [2, 3, 4, 5, 6] rfl ?_
    exact kk _ hI hrK
  · refine z_aload_n 3 hG dL_law_1618 rfl rfl ?_
    refine z_iconst 0 hG dL_law_1619 ?_
    refine z_lald (v := v) hG (zltL hL (by decide)) (zl129 hL) (by decide) (by decide) (h1 q) dL_law_1620 ?_
    refine z_iload 0 hG dL_law_1621 rfl ?_
    refine z_i2l hG dL_law_1623 hv ?_
    refine z_lcmpe hG dL_law_1624 ?_
    refine z_if_eq (tgt := 1630) hG dL_law_1625 (by decide) (by decide) (fun _ => ?_) (fun q9 => absurd rfl q9)
    refine z_goto (tgt := 1759) hG dL_law_1630 (by decide) ?_
    refine z_perm (lv' := [(4, .int (zI i)), (3, .ref (F.1 129)), (2, .ref (F.1 110)), (1, .ref (F.1 0)), (0, .ref b)]) [2, 3, 4, 5, 6] rfl ?_
    exact kk _ hI hrK
set_option maxRecDepth 100000 in
set_option maxHeartbeats 8000000 in
theorem w_L_groupOf {G : zCx} {F : zFr} {I : zStore} {cells slots b L : Nat} {xs : Nat → Int32} {i : Int} {rmG : Room} {Inv : zStore → Prop} (hG : zOK G "LineLearnerLaw" cL_law 9) (hS0 : zScr G b L xs) (hR : zRoom G rmG) (hfr : 12 ≤ rmG.frames) (hlo : 428 ≤ rmG.locals) (hce : cells + 4 ≤ rmG.cells) (hsl : slots + 1400 ≤ rmG.slots) (hL : zLayL F) (hL2 : L ≤ 2048) (hi : 0 ≤ i ∧ i + 4 ≤ L)
    (hW : ∀ (l : Launch) (D : va_G) (cs : Nat → ClassId), l.stackTraces = false → zMh l yL_groupOf cL_groupOf 4 (some .int) [(0, 9, 12, 15), (0, 9, 15, 25)] rm_L_groupOf D cs F I [.ref (F.1 0), .int (zI (zsc xs (i + 1))), .ref (F.1 129)] (fun r J => ∃ k : Int, r = some (.int (zI k)) ∧ (0 ≤ k ∧ k ≤ 2) ∧ zPs yX4_groupOf cX4_groupOf 2 (some .int) rm_X4_groupOf F [.int (zI (zsc xs (i + 1)))] false Inv k J))
    (kk : ∀ K, Inv K → zRg K → zW G F (cells + 2 + 0) (slots + 12 + 0) K [(4, .int (zI i)), (3, .ref (F.1 129)), (2, .ref (F.1 110)), (1, .ref (F.1 0)), (0, .ref b)] [] 1759) : zW G F cells slots I [(4, .int (zI i)), (3, .ref (F.1 129)), (2, .ref (F.1 110)), (1, .ref (F.1 0)), (0, .ref b)] [] 1633 := by
  refine z_aload_n 3 hG dL_law_1633 rfl rfl ?_
  refine z_aload_n 4 hG dL_law_1634 rfl rfl ?_
  refine z_iload 0 hG dL_law_1635 rfl ?_
  refine z_iconst 1 hG dL_law_1637 ?_
  refine z_iadd hG dL_law_1638 ?_
  refine z_sal hG hS0 hL2 (by omega) dL_law_1639 ?_
  refine z_aload_n 1 hG dL_law_1640 rfl rfl ?_
  refine z_callSH [.ref (F.1 0), .int (zI (zsc xs (i + 1))), .ref (F.1 129)] hG hR hW hd_L_groupOf kw651 kw652 (by show 9 ≤ _; omega) (by show 147 ≤ _; omega) (by show cells + 2 ≤ _; omega) (by show slots + 12 ≤ _; omega) rfl rfl (Nat.le_of_ble_eq_true rfl) dL_law_1641 (fun r I1 hq => ?_)
  obtain ⟨k, rfl, hk, post, hM, hp⟩ := hq
  show zW G F (cells + 2) (slots + 12) I1 [(4, .int (zI i)), (3, .ref (F.1 129)), (2, .ref (F.1 110)), (1, .ref (F.1 0)), (0, .ref b)] [.int (zI k)] 1644
  refine z_istore (lv' := [(5, .int (zI k)), (4, .int (zI i)), (3, .ref (F.1 129)), (2, .ref (F.1 110)), (1, .ref (F.1 0)), (0, .ref b)]) hG dL_law_1644 (by decide) rfl ?_
  refine z_aload_n 3 hG dL_law_1646 rfl rfl ?_
  refine z_aload_n 5 hG dL_law_1647 rfl rfl ?_
  refine z_iload 1 hG dL_law_1648 rfl ?_
  refine z_iconst 1 hG dL_law_1650 ?_
  refine z_iadd hG dL_law_1651 ?_
  refine z_sal hG hS0 hL2 (by omega) dL_law_1652 ?_
  refine z_callV [.int (zI (zsc xs (i + 1)))] hG hR hM hd_X4_groupOf kw958 kw959 kw960 rfl (zltL hL (by decide)) (zl110 hL.m) (by show 2 ≤ _; omega) (by show 42 ≤ _; omega) (by show cells + 2 + 0 ≤ _; omega) (by show slots + 12 + 0 ≤ _; omega) rfl rfl (Nat.le_of_ble_eq_true rfl) dL_law_1653 (fun r K hq => ?_)
  obtain ⟨v, rfl, hv, hb, h0, h1, hrK, hI⟩ := hp r K hq
  show zW G F (cells + 2 + 0) (slots + 12 + 0) K [(5, .int (zI k)), (4, .int (zI i)), (3, .ref (F.1 129)), (2, .ref (F.1 110)), (1, .ref (F.1 0)), (0, .ref b)] [.int (zI v)] 1656
  refine z_istore (lv' := [(6, .int (zI v)), (5, .int (zI k)), (4, .int (zI i)), (3, .ref (F.1 129)), (2, .ref (F.1 110)), (1, .ref (F.1 0)), (0, .ref b)]) hG dL_law_1656 (by decide) rfl ?_
  refine z_aload_n 4 hG dL_law_1658 rfl rfl ?_
  refine z_callV [] hG hR (c_X4_thrown hL.m hrK) hd_X4_thrown kw759 kw760 kw761 rfl (zltL hL (by decide)) (zl110 hL.m) (by show 1 ≤ _; omega) (by show 20 ≤ _; omega) (by show cells + 2 + 0 ≤ _; omega) (by show slots + 12 + 0 ≤ _; omega) rfl rfl (Nat.le_of_ble_eq_true rfl) dL_law_1659 (fun r K2 hq => ?_)
  rw [hq.1, hq.2, h0]
  show zW G F (cells + 2 + 0) (slots + 12 + 0) K [(6, .int (zI v)), (5, .int (zI k)), (4, .int (zI i)), (3, .ref (F.1 129)), (2, .ref (F.1 110)), (1, .ref (F.1 0)), (0, .ref b)] [.int (zI k)] 1662
  refine z_iload 1 hG dL_law_1662 rfl ?_
  refine z_icmp_eq (tgt := 1669) hG dL_law_1664 (by decide) (by omega) (by omega) (fun _ => ?_) (fun q => absurd rfl q)
  refine z_iload 1 hG dL_law_1669 rfl ?_
  refine z_if_ne (tgt := 1686) hG dL_law_1671 (by decide) (by omega) (fun q => ?_) (fun q => ?_)
  · refine z_goto (tgt := 1759) hG dL_law_1686 (by decide) ?_
    refine z_perm (lv' := [(4, .int (zI i)), (3, .ref (F.1 129)), (2, .ref (F.1 110)), (1, .ref (F.1 0)), (0, .ref b)]) [2, 3, 4, 5, 6] rfl ?_
    exact kk _ hI hrK
  · refine z_aload_n 3 hG dL_law_1674 rfl rfl ?_
    refine z_iconst 0 hG dL_law_1675 ?_
    refine z_lald (v := v) hG (zltL hL (by decide)) (zl129 hL) (by decide) (by decide) (h1 q) dL_law_1676 ?_
    refine z_iload 0 hG dL_law_1677 rfl ?_
    refine z_i2l hG dL_law_1679 hv ?_
    refine z_lcmpe hG dL_law_1680 ?_
    refine z_if_eq (tgt := 1686) hG dL_law_1681 (by decide) (by decide) (fun _ => ?_) (fun q9 => absurd rfl q9)
    refine z_goto (tgt := 1759) hG dL_law_1686 (by decide) ?_
    refine z_perm (lv' := [(4, .int (zI i)), (3, .ref (F.1 129)), (2, .ref (F.1 110)), (1, .ref (F.1 0)), (0, .ref b)]) [2, 3, 4, 5, 6] rfl ?_
    exact kk _ hI hrK
set_option maxRecDepth 100000 in
set_option maxHeartbeats 8000000 in
theorem w_L_groupSlots {G : zCx} {F : zFr} {I : zStore} {cells slots b L : Nat} {xs : Nat → Int32} {i : Int} {rmG : Room} {Inv : zStore → Prop} (hG : zOK G "LineLearnerLaw" cL_law 9) (hS0 : zScr G b L xs) (hR : zRoom G rmG) (hfr : 12 ≤ rmG.frames) (hlo : 428 ≤ rmG.locals) (hce : cells + 4 ≤ rmG.cells) (hsl : slots + 1400 ≤ rmG.slots) (hL : zLayL F) (hL2 : L ≤ 2048) (hi : 0 ≤ i ∧ i + 4 ≤ L)
    (hW : ∀ (l : Launch) (D : va_G) (cs : Nat → ClassId), l.stackTraces = false → zMh l yL_groupSlots cL_groupSlots 4 (some .int) [(0, 9, 12, 15), (0, 9, 15, 25)] rm_L_groupSlots D cs F I [.ref (F.1 0), .int (zI (zsc xs (i + 1))), .ref (F.1 129)] (fun r J => ∃ k : Int, r = some (.int (zI k)) ∧ (0 ≤ k ∧ k ≤ 2) ∧ zPs yX4_groupSlots cX4_groupSlots 2 (some .int) rm_X4_groupSlots F [.int (zI (zsc xs (i + 1)))] false Inv k J))
    (kk : ∀ K, Inv K → zRg K → zW G F (cells + 2 + 0) (slots + 12 + 0) K [(4, .int (zI i)), (3, .ref (F.1 129)), (2, .ref (F.1 110)), (1, .ref (F.1 0)), (0, .ref b)] [] 1759) : zW G F cells slots I [(4, .int (zI i)), (3, .ref (F.1 129)), (2, .ref (F.1 110)), (1, .ref (F.1 0)), (0, .ref b)] [] 1689 := by
  refine z_aload_n 3 hG dL_law_1689 rfl rfl ?_
  refine z_aload_n 4 hG dL_law_1690 rfl rfl ?_
  refine z_iload 0 hG dL_law_1691 rfl ?_
  refine z_iconst 1 hG dL_law_1693 ?_
  refine z_iadd hG dL_law_1694 ?_
  refine z_sal hG hS0 hL2 (by omega) dL_law_1695 ?_
  refine z_aload_n 1 hG dL_law_1696 rfl rfl ?_
  refine z_callSH [.ref (F.1 0), .int (zI (zsc xs (i + 1))), .ref (F.1 129)] hG hR hW hd_L_groupSlots kw663 kw664 (by show 9 ≤ _; omega) (by show 146 ≤ _; omega) (by show cells + 2 ≤ _; omega) (by show slots + 12 ≤ _; omega) rfl rfl (Nat.le_of_ble_eq_true rfl) dL_law_1697 (fun r I1 hq => ?_)
  obtain ⟨k, rfl, hk, post, hM, hp⟩ := hq
  show zW G F (cells + 2) (slots + 12) I1 [(4, .int (zI i)), (3, .ref (F.1 129)), (2, .ref (F.1 110)), (1, .ref (F.1 0)), (0, .ref b)] [.int (zI k)] 1700
  refine z_istore (lv' := [(5, .int (zI k)), (4, .int (zI i)), (3, .ref (F.1 129)), (2, .ref (F.1 110)), (1, .ref (F.1 0)), (0, .ref b)]) hG dL_law_1700 (by decide) rfl ?_
  refine z_aload_n 3 hG dL_law_1702 rfl rfl ?_
  refine z_aload_n 5 hG dL_law_1703 rfl rfl ?_
  refine z_iload 1 hG dL_law_1704 rfl ?_
  refine z_iconst 1 hG dL_law_1706 ?_
  refine z_iadd hG dL_law_1707 ?_
  refine z_sal hG hS0 hL2 (by omega) dL_law_1708 ?_
  refine z_callV [.int (zI (zsc xs (i + 1)))] hG hR hM hd_X4_groupSlots kw962 kw963 kw964 rfl (zltL hL (by decide)) (zl110 hL.m) (by show 2 ≤ _; omega) (by show 42 ≤ _; omega) (by show cells + 2 + 0 ≤ _; omega) (by show slots + 12 + 0 ≤ _; omega) rfl rfl (Nat.le_of_ble_eq_true rfl) dL_law_1709 (fun r K hq => ?_)
  obtain ⟨v, rfl, hv, hb, h0, h1, hrK, hI⟩ := hp r K hq
  show zW G F (cells + 2 + 0) (slots + 12 + 0) K [(5, .int (zI k)), (4, .int (zI i)), (3, .ref (F.1 129)), (2, .ref (F.1 110)), (1, .ref (F.1 0)), (0, .ref b)] [.int (zI v)] 1712
  refine z_istore (lv' := [(6, .int (zI v)), (5, .int (zI k)), (4, .int (zI i)), (3, .ref (F.1 129)), (2, .ref (F.1 110)), (1, .ref (F.1 0)), (0, .ref b)]) hG dL_law_1712 (by decide) rfl ?_
  refine z_aload_n 4 hG dL_law_1714 rfl rfl ?_
  refine z_callV [] hG hR (c_X4_thrown hL.m hrK) hd_X4_thrown kw759 kw760 kw761 rfl (zltL hL (by decide)) (zl110 hL.m) (by show 1 ≤ _; omega) (by show 20 ≤ _; omega) (by show cells + 2 + 0 ≤ _; omega) (by show slots + 12 + 0 ≤ _; omega) rfl rfl (Nat.le_of_ble_eq_true rfl) dL_law_1715 (fun r K2 hq => ?_)
  rw [hq.1, hq.2, h0]
  show zW G F (cells + 2 + 0) (slots + 12 + 0) K [(6, .int (zI v)), (5, .int (zI k)), (4, .int (zI i)), (3, .ref (F.1 129)), (2, .ref (F.1 110)), (1, .ref (F.1 0)), (0, .ref b)] [.int (zI k)] 1718
  refine z_iload 1 hG dL_law_1718 rfl ?_
  refine z_icmp_eq (tgt := 1725) hG dL_law_1720 (by decide) (by omega) (by omega) (fun _ => ?_) (fun q => absurd rfl q)
  refine z_iload 1 hG dL_law_1725 rfl ?_
  refine z_if_ne (tgt := 1742) hG dL_law_1727 (by decide) (by omega) (fun q => ?_) (fun q => ?_)
  · refine z_goto (tgt := 1759) hG dL_law_1742 (by decide) ?_
    refine z_perm (lv' := [(4, .int (zI i)), (3, .ref (F.1 129)), (2, .ref (F.1 110)), (1, .ref (F.1 0)), (0, .ref b)]) [2, 3, 4, 5, 6] rfl ?_
    exact kk _ hI hrK
  · refine z_aload_n 3 hG dL_law_1730 rfl rfl ?_
    refine z_iconst 0 hG dL_law_1731 ?_
    refine z_lald (v := v) hG (zltL hL (by decide)) (zl129 hL) (by decide) (by decide) (h1 q) dL_law_1732 ?_
    refine z_iload 0 hG dL_law_1733 rfl ?_
    refine z_i2l hG dL_law_1735 hv ?_
    refine z_lcmpe hG dL_law_1736 ?_
    refine z_if_eq (tgt := 1742) hG dL_law_1737 (by decide) (by decide) (fun _ => ?_) (fun q9 => absurd rfl q9)
    refine z_goto (tgt := 1759) hG dL_law_1742 (by decide) ?_
    refine z_perm (lv' := [(4, .int (zI i)), (3, .ref (F.1 129)), (2, .ref (F.1 110)), (1, .ref (F.1 0)), (0, .ref b)]) [2, 3, 4, 5, 6] rfl ?_
    exact kk _ hI hrK
