/-! the judgement: from this place of the method, with these locals, this stack and this store, the method comes to its end -/
abbrev zCx : Type := Program × Launch × Env × Room × State × MethodId × Array Value × List Frame × Method × Code × (State → Prop) × (Nat → Prop) × Nat × va_G × (Nat → ClassId)
abbrev zLv : Type := List (Nat × Value)
def zW (G : zCx) (F : zFr) (cells slots : Nat) (I : zStore) (lv : zLv) (st : List Value) (pc : Nat) : Prop := match G with
  | (p, l, e, R, s, m, args, below, meth, c, Q, A, n, D, cs) => cells ≤ R.cells → slots ≤ R.slots → ∀ (H : Heap) (locs : List Loc) (ls : Array Slot), va_P D vwCl (zws cs F I) H → va_D A (zws cs F I) → va_S A s.heap H locs → lv_has ls n lv → W p l e R s m args below meth c H locs cells slots Q (F0 m pc ls st)
def zOK (G : zCx) (own : String) (cc : ByteArray) (nL : Nat) : Prop := match G with
  | (p, l, e, R, s, m, args, below, meth, c, Q, A, n, D, cs) => p.tables.exec = Jvm.exec ∧ c.code = cc ∧ s.vm.findClass own = some m.cls ∧ c.maxLocals = n ∧ n = nL ∧ va_K D vwCl (ztys cs) s ∧ zTb s ∧ zOutH A s s.heap ∧ zOutV s ∧ (∀ q, s.heap.size ≤ q → A q) ∧ l.stackTraces = false
def zRm (G : zCx) (f n : Nat) : Prop := match G with
  | (p, l, e, R, s, m, args, below, meth, c, Q, A, nn, D, cs) => f ≤ R.frames ∧ n ≤ R.locals
section ZR
variable {G : zCx} {F : zFr} {cells slots : Nat} {I : zStore} {lv lv' : zLv} {st : List Value} {pc : Nat} {own : String} {cc : ByteArray} {nL : Nat}
theorem z_perm (ks : List Nat) (h : lv_pick lv ks = lv') (k : zW G F cells slots I lv' st pc) : zW G F cells slots I lv st pc := by
  obtain ⟨p, l, e, R, s, m, args, below, meth, c, Q, A, n, D, cs⟩ := G
  intro hc hs H locs ls hP hD hS hl
  exact k hc hs H locs ls hP hD hS (lv_sub hl ks h)
theorem z_eqst {st' : List Value} (h : st = st') (k : zW G F cells slots I lv st' pc) : zW G F cells slots I lv st pc := h ▸ k
theorem z_iadd {a b : Int} (hG : zOK G own cc nL) (hd : decode cc pc = .ok (.iadd, 1)) (k : zW G F cells slots I lv (.int (zI (a + b)) :: st) (pc + 1)) : zW G F cells slots I lv (.int (zI b) :: .int (zI a) :: st) pc := by
  obtain ⟨p, l, e, R, s, m, args, below, meth, c, Q, A, n, D, cs⟩ := G
  intro hc hs H locs ls hP hD hS hl
  have h := k hc hs H locs ls hP hD hS hl
  rw [← zI_add] at h
  exact lv_iadd hG.1 hG.2.1 hd h
theorem z_isub {a b : Int} (hG : zOK G own cc nL) (hd : decode cc pc = .ok (.isub, 1)) (k : zW G F cells slots I lv (.int (zI (a - b)) :: st) (pc + 1)) : zW G F cells slots I lv (.int (zI b) :: .int (zI a) :: st) pc := by
  obtain ⟨p, l, e, R, s, m, args, below, meth, c, Q, A, n, D, cs⟩ := G
  intro hc hs H locs ls hP hD hS hl
  have h := k hc hs H locs ls hP hD hS hl
  rw [← zI_sub] at h
  exact lv_isub hG.1 hG.2.1 hd h
theorem z_imul {a b : Int} (hG : zOK G own cc nL) (hd : decode cc pc = .ok (.imul, 1)) (k : zW G F cells slots I lv (.int (zI (a * b)) :: st) (pc + 1)) : zW G F cells slots I lv (.int (zI b) :: .int (zI a) :: st) pc := by
  obtain ⟨p, l, e, R, s, m, args, below, meth, c, Q, A, n, D, cs⟩ := G
  intro hc hs H locs ls hP hD hS hl
  have h := k hc hs H locs ls hP hD hS hl
  rw [← zI_mul] at h
  exact lv_imul hG.1 hG.2.1 hd h
theorem z_ladd {a b : Int} (hG : zOK G own cc nL) (hd : decode cc pc = .ok (.ladd, 1)) (k : zW G F cells slots I lv (.long (zJ (a + b)) :: st) (pc + 1)) : zW G F cells slots I lv (.long (zJ b) :: .long (zJ a) :: st) pc := by
  obtain ⟨p, l, e, R, s, m, args, below, meth, c, Q, A, n, D, cs⟩ := G
  intro hc hs H locs ls hP hD hS hl
  have h := k hc hs H locs ls hP hD hS hl
  rw [← zJ_add] at h
  exact lv_ladd hG.1 hG.2.1 hd h
theorem z_lmul {a b : Int} (hG : zOK G own cc nL) (hd : decode cc pc = .ok (.lmul, 1)) (k : zW G F cells slots I lv (.long (zJ (a * b)) :: st) (pc + 1)) : zW G F cells slots I lv (.long (zJ b) :: .long (zJ a) :: st) pc := by
  obtain ⟨p, l, e, R, s, m, args, below, meth, c, Q, A, n, D, cs⟩ := G
  intro hc hs H locs ls hP hD hS hl
  have h := k hc hs H locs ls hP hD hS hl
  rw [← zJ_mul] at h
  exact lv_lmul hG.1 hG.2.1 hd h
theorem z_iconst (n : Int) (hG : zOK G own cc nL) (hd : decode cc pc = .ok (.iconst n, 1)) (k : zW G F cells slots I lv (.int (zI n) :: st) (pc + 1)) : zW G F cells slots I lv st pc := by
  obtain ⟨p, l, e, R, s, m, args, below, meth, c, Q, A, nn, D, cs⟩ := G
  intro hc hs H locs ls hP hD hS hl
  exact lv_iconst hG.1 hG.2.1 hd rfl (k hc hs H locs ls hP hD hS hl)
theorem z_bipush (n : Int) (hG : zOK G own cc nL) (hd : decode cc pc = .ok (.bipush n, 2)) (hv : (Int8.ofInt n).toInt32 = zI n) (k : zW G F cells slots I lv (.int (zI n) :: st) (pc + 2)) : zW G F cells slots I lv st pc := by
  obtain ⟨p, l, e, R, s, m, args, below, meth, c, Q, A, nn, D, cs⟩ := G
  intro hc hs H locs ls hP hD hS hl
  exact lv_bipush hG.1 hG.2.1 hd hv (k hc hs H locs ls hP hD hS hl)
theorem z_sipush (n : Int) (hG : zOK G own cc nL) (hd : decode cc pc = .ok (.sipush n, 3)) (hv : (Int16.ofInt n).toInt32 = zI n) (k : zW G F cells slots I lv (.int (zI n) :: st) (pc + 3)) : zW G F cells slots I lv st pc := by
  obtain ⟨p, l, e, R, s, m, args, below, meth, c, Q, A, nn, D, cs⟩ := G
  intro hc hs H locs ls hP hD hS hl
  exact lv_sipush hG.1 hG.2.1 hd hv (k hc hs H locs ls hP hD hS hl)
theorem z_lconst {f : Fin 2} (n : Int) (hG : zOK G own cc nL) (hd : decode cc pc = .ok (.lconst f, 1)) (hv : Int64.ofNat (f : Nat) = zJ n) (k : zW G F cells slots I lv (.long (zJ n) :: st) (pc + 1)) : zW G F cells slots I lv st pc := by
  obtain ⟨p, l, e, R, s, m, args, below, meth, c, Q, A, nn, D, cs⟩ := G
  intro hc hs H locs ls hP hD hS hl
  exact lv_lconst hG.1 hG.2.1 hd hv (k hc hs H locs ls hP hD hS hl)
theorem z_iload_n {i : Nat} {f : Fin 4} {x : Int32} (j : Nat) (hG : zOK G own cc nL) (hd : decode cc pc = .ok (.iload_n f, 1)) (hi : (f : Nat) = i) (hk : lv[j]? = some (i, .int x)) (k : zW G F cells slots I lv (.int x :: st) (pc + 1)) : zW G F cells slots I lv st pc := by
  obtain ⟨p, l, e, R, s, m, args, below, meth, c, Q, A, nn, D, cs⟩ := G
  intro hc hs H locs ls hP hD hS hl
  exact lv_iload_n hG.1 hG.2.1 hd hi (lv_at hl j hk) (k hc hs H locs ls hP hD hS hl)
theorem z_iload {i : Nat} {x : Int32} (j : Nat) (hG : zOK G own cc nL) (hd : decode cc pc = .ok (.iload i, 2)) (hk : lv[j]? = some (i, .int x)) (k : zW G F cells slots I lv (.int x :: st) (pc + 2)) : zW G F cells slots I lv st pc := by
  obtain ⟨p, l, e, R, s, m, args, below, meth, c, Q, A, nn, D, cs⟩ := G
  intro hc hs H locs ls hP hD hS hl
  exact lv_iload hG.1 hG.2.1 hd (lv_at hl j hk) (k hc hs H locs ls hP hD hS hl)
theorem z_lload_n {i : Nat} {f : Fin 4} {x : Int64} (j : Nat) (hG : zOK G own cc nL) (hd : decode cc pc = .ok (.lload_n f, 1)) (hi : (f : Nat) = i) (hk : lv[j]? = some (i, .long x)) (k : zW G F cells slots I lv (.long x :: st) (pc + 1)) : zW G F cells slots I lv st pc := by
  obtain ⟨p, l, e, R, s, m, args, below, meth, c, Q, A, nn, D, cs⟩ := G
  intro hc hs H locs ls hP hD hS hl
  exact lv_lload_n hG.1 hG.2.1 hd hi (lv_at hl j hk) (k hc hs H locs ls hP hD hS hl)
theorem z_aload_n {i x : Nat} {f : Fin 4} (j : Nat) (hG : zOK G own cc nL) (hd : decode cc pc = .ok (.aload_n f, 1)) (hi : (f : Nat) = i) (hk : lv[j]? = some (i, .ref x)) (k : zW G F cells slots I lv (.ref x :: st) (pc + 1)) : zW G F cells slots I lv st pc := by
  obtain ⟨p, l, e, R, s, m, args, below, meth, c, Q, A, nn, D, cs⟩ := G
  intro hc hs H locs ls hP hD hS hl
  exact lv_aload_n hG.1 hG.2.1 hd hi (lv_at hl j hk) (k hc hs H locs ls hP hD hS hl)
theorem z_aload {i x : Nat} (j : Nat) (hG : zOK G own cc nL) (hd : decode cc pc = .ok (.aload i, 2)) (hk : lv[j]? = some (i, .ref x)) (k : zW G F cells slots I lv (.ref x :: st) (pc + 2)) : zW G F cells slots I lv st pc := by
  obtain ⟨p, l, e, R, s, m, args, below, meth, c, Q, A, nn, D, cs⟩ := G
  intro hc hs H locs ls hP hD hS hl
  exact lv_aload hG.1 hG.2.1 hd (lv_at hl j hk) (k hc hs H locs ls hP hD hS hl)
theorem z_istore_n {i : Nat} {f : Fin 4} {x : Int32} (hG : zOK G own cc nL) (hd : decode cc pc = .ok (.istore_n f, 1)) (hi : (f : Nat) = i) (hn : i < nL) (hl' : (i, Value.int x) :: lv.filter (fun q => !(q.1 == i) && !(q.1 + 1 == i && q.2.category == 2)) = lv') (k : zW G F cells slots I lv' st (pc + 1)) : zW G F cells slots I lv (.int x :: st) pc := by
  obtain ⟨p, l, e, R, s, m, args, below, meth, c, Q, A, nn, D, cs⟩ := G
  intro hc hs H locs ls hP hD hS hl
  have hn2 : i < nn := by have := hG.2.2.2.2.1; omega
  exact lv_istore_n hG.1 hG.2.1 hd hi hl hn2 hl' (fun ls2 hl2 => k hc hs H locs ls2 hP hD hS hl2)
theorem z_istore {i : Nat} {x : Int32} (hG : zOK G own cc nL) (hd : decode cc pc = .ok (.istore i, 2)) (hn : i < nL) (hl' : (i, Value.int x) :: lv.filter (fun q => !(q.1 == i) && !(q.1 + 1 == i && q.2.category == 2)) = lv') (k : zW G F cells slots I lv' st (pc + 2)) : zW G F cells slots I lv (.int x :: st) pc := by
  obtain ⟨p, l, e, R, s, m, args, below, meth, c, Q, A, nn, D, cs⟩ := G
  intro hc hs H locs ls hP hD hS hl
  have hn2 : i < nn := by have := hG.2.2.2.2.1; omega
  exact lv_istore hG.1 hG.2.1 hd hl hn2 hl' (fun ls2 hl2 => k hc hs H locs ls2 hP hD hS hl2)
theorem z_lstore_n {i : Nat} {f : Fin 4} {x : Int64} (hG : zOK G own cc nL) (hd : decode cc pc = .ok (.lstore_n f, 1)) (hi : (f : Nat) = i) (hn : i + 1 < nL) (hl' : (i, Value.long x) :: lv.filter (fun q => !(q.1 == i) && (!(q.1 == i + 1) && !(q.1 + 1 == i && q.2.category == 2))) = lv') (k : zW G F cells slots I lv' st (pc + 1)) : zW G F cells slots I lv (.long x :: st) pc := by
  obtain ⟨p, l, e, R, s, m, args, below, meth, c, Q, A, nn, D, cs⟩ := G
  intro hc hs H locs ls hP hD hS hl
  have hn2 : i + 1 < nn := by have := hG.2.2.2.2.1; omega
  exact lv_lstore_n hG.1 hG.2.1 hd hi hl hn2 hl' (fun ls2 hl2 => k hc hs H locs ls2 hP hD hS hl2)
theorem z_astore_n {i : Nat} {f : Fin 4} {x : Nat} (hG : zOK G own cc nL) (hd : decode cc pc = .ok (.astore_n f, 1)) (hi : (f : Nat) = i) (hn : i < nL) (hl' : (i, Value.ref x) :: lv.filter (fun q => !(q.1 == i) && !(q.1 + 1 == i && q.2.category == 2)) = lv') (k : zW G F cells slots I lv' st (pc + 1)) : zW G F cells slots I lv (.ref x :: st) pc := by
  obtain ⟨p, l, e, R, s, m, args, below, meth, c, Q, A, nn, D, cs⟩ := G
  intro hc hs H locs ls hP hD hS hl
  have hn2 : i < nn := by have := hG.2.2.2.2.1; omega
  exact lv_astore_n hG.1 hG.2.1 hd hi hl hn2 hl' (fun ls2 hl2 => k hc hs H locs ls2 hP hD hS hl2)
theorem z_astore {i : Nat} {x : Nat} (hG : zOK G own cc nL) (hd : decode cc pc = .ok (.astore i, 2)) (hn : i < nL) (hl' : (i, Value.ref x) :: lv.filter (fun q => !(q.1 == i) && !(q.1 + 1 == i && q.2.category == 2)) = lv') (k : zW G F cells slots I lv' st (pc + 2)) : zW G F cells slots I lv (.ref x :: st) pc := by
  obtain ⟨p, l, e, R, s, m, args, below, meth, c, Q, A, nn, D, cs⟩ := G
  intro hc hs H locs ls hP hD hS hl
  have hn2 : i < nn := by have := hG.2.2.2.2.1; omega
  exact lv_astore hG.1 hG.2.1 hd hl hn2 hl' (fun ls2 hl2 => k hc hs H locs ls2 hP hD hS hl2)
theorem z_iinc {i : Nat} {a n : Int} (j : Nat) (hG : zOK G own cc nL) (hd : decode cc pc = .ok (.iinc i n, 3)) (hk : lv[j]? = some (i, .int (zI a))) (hn : i < nL) (hl' : (i, Value.int (zI (a + n))) :: lv.filter (fun q => !(q.1 == i) && !(q.1 + 1 == i && q.2.category == 2)) = lv') (k : zW G F cells slots I lv' st (pc + 3)) : zW G F cells slots I lv st pc := by
  obtain ⟨p, l, e, R, s, m, args, below, meth, c, Q, A, nn, D, cs⟩ := G
  intro hc hs H locs ls hP hD hS hl
  have hn2 : i < nn := by have := hG.2.2.2.2.1; omega
  exact lv_iinc hG.1 hG.2.1 hd hl hk (zI_add a n) hn2 hl' (fun ls2 hl2 => k hc hs H locs ls2 hP hD hS hl2)
theorem z_dup {v : Value} (hG : zOK G own cc nL) (hd : decode cc pc = .ok (.dup, 1)) (hv : v.category = 1) (k : zW G F cells slots I lv (v :: v :: st) (pc + 1)) : zW G F cells slots I lv (v :: st) pc := by
  obtain ⟨p, l, e, R, s, m, args, below, meth, c, Q, A, nn, D, cs⟩ := G
  intro hc hs H locs ls hP hD hS hl
  exact lv_dup hG.1 hG.2.1 hd hv (k hc hs H locs ls hP hD hS hl)
theorem z_dup2 {v w : Value} (hG : zOK G own cc nL) (hd : decode cc pc = .ok (.dup2, 1)) (hv : v.category = 1) (hw : w.category = 1) (k : zW G F cells slots I lv (v :: w :: v :: w :: st) (pc + 1)) : zW G F cells slots I lv (v :: w :: st) pc := by
  obtain ⟨p, l, e, R, s, m, args, below, meth, c, Q, A, nn, D, cs⟩ := G
  intro hc hs H locs ls hP hD hS hl
  exact lv_dup2_11 hG.1 hG.2.1 hd hv hw (k hc hs H locs ls hP hD hS hl)
theorem z_pop {v : Value} (hG : zOK G own cc nL) (hd : decode cc pc = .ok (.pop, 1)) (hv : v.category = 1) (k : zW G F cells slots I lv st (pc + 1)) : zW G F cells slots I lv (v :: st) pc := by
  obtain ⟨p, l, e, R, s, m, args, below, meth, c, Q, A, nn, D, cs⟩ := G
  intro hc hs H locs ls hP hD hS hl
  exact lv_pop hG.1 hG.2.1 hd hv (k hc hs H locs ls hP hD hS hl)
theorem z_goto {off : Int} {tgt : Nat} (hG : zOK G own cc nL) (hd : decode cc pc = .ok (.goto off, 3)) (ht : (pc : Int) + off = (tgt : Int)) (k : zW G F cells slots I lv st tgt) : zW G F cells slots I lv st pc := by
  obtain ⟨p, l, e, R, s, m, args, below, meth, c, Q, A, nn, D, cs⟩ := G
  intro hc hs H locs ls hP hD hS hl
  exact lv_goto hG.1 hG.2.1 hd ht (k hc hs H locs ls hP hD hS hl)
theorem z_i2l {a : Int} (hG : zOK G own cc nL) (hd : decode cc pc = .ok (.i2l, 1)) (ha : -2147483648 ≤ a ∧ a < 2147483648) (k : zW G F cells slots I lv (.long (zJ a) :: st) (pc + 1)) : zW G F cells slots I lv (.int (zI a) :: st) pc := by
  obtain ⟨p, l, e, R, s, m, args, below, meth, c, Q, A, nn, D, cs⟩ := G
  intro hc hs H locs ls hP hD hS hl
  exact lv_i2l hG.1 hG.2.1 hd (zI_wide ha) (k hc hs H locs ls hP hD hS hl)
theorem z_icmp_eq {a b : Int} {off : Int} {tgt : Nat} (hG : zOK G own cc nL) (hd : decode cc pc = .ok (.if_icmp .eq off, 3)) (ht : (pc : Int) + off = (tgt : Int)) (ha : -2147483648 ≤ a ∧ a < 2147483648) (hb : -2147483648 ≤ b ∧ b < 2147483648) (kt : a = b → zW G F cells slots I lv st tgt) (kf : a ≠ b → zW G F cells slots I lv st (pc + 3)) : zW G F cells slots I lv (.int (zI b) :: .int (zI a) :: st) pc := by
  obtain ⟨p, l, e, R, s, m, args, below, meth, c, Q, A, nn, D, cs⟩ := G
  intro hc hs H locs ls hP hD hS hl
  exact lv_icmp_eq hG.1 hG.2.1 hd ht (fun h => kt ((zI_eq ha hb).mp h) hc hs H locs ls hP hD hS hl) (fun h => kf (fun q => h ((zI_eq ha hb).mpr q)) hc hs H locs ls hP hD hS hl)
theorem z_if_eq {a : Int} {off : Int} {tgt : Nat} (hG : zOK G own cc nL) (hd : decode cc pc = .ok (.ifCond .eq off, 3)) (ht : (pc : Int) + off = (tgt : Int)) (ha : -2147483648 ≤ a ∧ a < 2147483648) (kt : a = 0 → zW G F cells slots I lv st tgt) (kf : a ≠ 0 → zW G F cells slots I lv st (pc + 3)) : zW G F cells slots I lv (.int (zI a) :: st) pc := by
  obtain ⟨p, l, e, R, s, m, args, below, meth, c, Q, A, nn, D, cs⟩ := G
  intro hc hs H locs ls hP hD hS hl
  have hb : -2147483648 ≤ (0 : Int) ∧ (0 : Int) < 2147483648 := by omega
  exact lv_if_eq hG.1 hG.2.1 hd ht (fun h => kt ((zI_eq ha hb).mp h) hc hs H locs ls hP hD hS hl) (fun h => kf (fun q => h ((zI_eq ha hb).mpr q)) hc hs H locs ls hP hD hS hl)
theorem z_icmp_ne {a b : Int} {off : Int} {tgt : Nat} (hG : zOK G own cc nL) (hd : decode cc pc = .ok (.if_icmp .ne off, 3)) (ht : (pc : Int) + off = (tgt : Int)) (ha : -2147483648 ≤ a ∧ a < 2147483648) (hb : -2147483648 ≤ b ∧ b < 2147483648) (kt : a ≠ b → zW G F cells slots I lv st tgt) (kf : a = b → zW G F cells slots I lv st (pc + 3)) : zW G F cells slots I lv (.int (zI b) :: .int (zI a) :: st) pc := by
  obtain ⟨p, l, e, R, s, m, args, below, meth, c, Q, A, nn, D, cs⟩ := G
  intro hc hs H locs ls hP hD hS hl
  exact lv_icmp_ne hG.1 hG.2.1 hd ht (fun h => kt (fun q => h ((zI_eq ha hb).mpr q)) hc hs H locs ls hP hD hS hl) (fun h => kf ((zI_eq ha hb).mp h) hc hs H locs ls hP hD hS hl)
theorem z_if_ne {a : Int} {off : Int} {tgt : Nat} (hG : zOK G own cc nL) (hd : decode cc pc = .ok (.ifCond .ne off, 3)) (ht : (pc : Int) + off = (tgt : Int)) (ha : -2147483648 ≤ a ∧ a < 2147483648) (kt : a ≠ 0 → zW G F cells slots I lv st tgt) (kf : a = 0 → zW G F cells slots I lv st (pc + 3)) : zW G F cells slots I lv (.int (zI a) :: st) pc := by
  obtain ⟨p, l, e, R, s, m, args, below, meth, c, Q, A, nn, D, cs⟩ := G
  intro hc hs H locs ls hP hD hS hl
  have hb : -2147483648 ≤ (0 : Int) ∧ (0 : Int) < 2147483648 := by omega
  exact lv_if_ne hG.1 hG.2.1 hd ht (fun h => kt (fun q => h ((zI_eq ha hb).mpr q)) hc hs H locs ls hP hD hS hl) (fun h => kf ((zI_eq ha hb).mp h) hc hs H locs ls hP hD hS hl)
theorem z_icmp_lt {a b : Int} {off : Int} {tgt : Nat} (hG : zOK G own cc nL) (hd : decode cc pc = .ok (.if_icmp .lt off, 3)) (ht : (pc : Int) + off = (tgt : Int)) (ha : -2147483648 ≤ a ∧ a < 2147483648) (hb : -2147483648 ≤ b ∧ b < 2147483648) (kt : a < b → zW G F cells slots I lv st tgt) (kf : b ≤ a → zW G F cells slots I lv st (pc + 3)) : zW G F cells slots I lv (.int (zI b) :: .int (zI a) :: st) pc := by
  obtain ⟨p, l, e, R, s, m, args, below, meth, c, Q, A, nn, D, cs⟩ := G
  intro hc hs H locs ls hP hD hS hl
  exact lv_icmp_lt hG.1 hG.2.1 hd ht (fun h => kt ((zI_lt ha hb).mp h) hc hs H locs ls hP hD hS hl) (fun h => kf (by have h2 := mt (zI_lt ha hb).mpr h; omega) hc hs H locs ls hP hD hS hl)
theorem z_if_lt {a : Int} {off : Int} {tgt : Nat} (hG : zOK G own cc nL) (hd : decode cc pc = .ok (.ifCond .lt off, 3)) (ht : (pc : Int) + off = (tgt : Int)) (ha : -2147483648 ≤ a ∧ a < 2147483648) (kt : a < 0 → zW G F cells slots I lv st tgt) (kf : 0 ≤ a → zW G F cells slots I lv st (pc + 3)) : zW G F cells slots I lv (.int (zI a) :: st) pc := by
  obtain ⟨p, l, e, R, s, m, args, below, meth, c, Q, A, nn, D, cs⟩ := G
  intro hc hs H locs ls hP hD hS hl
  have hb : -2147483648 ≤ (0 : Int) ∧ (0 : Int) < 2147483648 := by omega
  exact lv_if_lt hG.1 hG.2.1 hd ht (fun h => kt ((zI_lt ha hb).mp h) hc hs H locs ls hP hD hS hl) (fun h => kf (by have h2 := mt (zI_lt ha hb).mpr h; omega) hc hs H locs ls hP hD hS hl)
theorem z_icmp_ge {a b : Int} {off : Int} {tgt : Nat} (hG : zOK G own cc nL) (hd : decode cc pc = .ok (.if_icmp .ge off, 3)) (ht : (pc : Int) + off = (tgt : Int)) (ha : -2147483648 ≤ a ∧ a < 2147483648) (hb : -2147483648 ≤ b ∧ b < 2147483648) (kt : b ≤ a → zW G F cells slots I lv st tgt) (kf : a < b → zW G F cells slots I lv st (pc + 3)) : zW G F cells slots I lv (.int (zI b) :: .int (zI a) :: st) pc := by
  obtain ⟨p, l, e, R, s, m, args, below, meth, c, Q, A, nn, D, cs⟩ := G
  intro hc hs H locs ls hP hD hS hl
  exact lv_icmp_ge hG.1 hG.2.1 hd ht (fun h => kt ((zI_le hb ha).mp h) hc hs H locs ls hP hD hS hl) (fun h => kf (by have h2 := mt (zI_le hb ha).mpr h; omega) hc hs H locs ls hP hD hS hl)
theorem z_if_ge {a : Int} {off : Int} {tgt : Nat} (hG : zOK G own cc nL) (hd : decode cc pc = .ok (.ifCond .ge off, 3)) (ht : (pc : Int) + off = (tgt : Int)) (ha : -2147483648 ≤ a ∧ a < 2147483648) (kt : 0 ≤ a → zW G F cells slots I lv st tgt) (kf : a < 0 → zW G F cells slots I lv st (pc + 3)) : zW G F cells slots I lv (.int (zI a) :: st) pc := by
  obtain ⟨p, l, e, R, s, m, args, below, meth, c, Q, A, nn, D, cs⟩ := G
  intro hc hs H locs ls hP hD hS hl
  have hb : -2147483648 ≤ (0 : Int) ∧ (0 : Int) < 2147483648 := by omega
  exact lv_if_ge hG.1 hG.2.1 hd ht (fun h => kt ((zI_le hb ha).mp h) hc hs H locs ls hP hD hS hl) (fun h => kf (by have h2 := mt (zI_le hb ha).mpr h; omega) hc hs H locs ls hP hD hS hl)
theorem z_icmp_gt {a b : Int} {off : Int} {tgt : Nat} (hG : zOK G own cc nL) (hd : decode cc pc = .ok (.if_icmp .gt off, 3)) (ht : (pc : Int) + off = (tgt : Int)) (ha : -2147483648 ≤ a ∧ a < 2147483648) (hb : -2147483648 ≤ b ∧ b < 2147483648) (kt : b < a → zW G F cells slots I lv st tgt) (kf : a ≤ b → zW G F cells slots I lv st (pc + 3)) : zW G F cells slots I lv (.int (zI b) :: .int (zI a) :: st) pc := by
  obtain ⟨p, l, e, R, s, m, args, below, meth, c, Q, A, nn, D, cs⟩ := G
  intro hc hs H locs ls hP hD hS hl
  exact lv_icmp_gt hG.1 hG.2.1 hd ht (fun h => kt ((zI_lt hb ha).mp h) hc hs H locs ls hP hD hS hl) (fun h => kf (by have h2 := mt (zI_lt hb ha).mpr h; omega) hc hs H locs ls hP hD hS hl)
theorem z_if_gt {a : Int} {off : Int} {tgt : Nat} (hG : zOK G own cc nL) (hd : decode cc pc = .ok (.ifCond .gt off, 3)) (ht : (pc : Int) + off = (tgt : Int)) (ha : -2147483648 ≤ a ∧ a < 2147483648) (kt : 0 < a → zW G F cells slots I lv st tgt) (kf : a ≤ 0 → zW G F cells slots I lv st (pc + 3)) : zW G F cells slots I lv (.int (zI a) :: st) pc := by
  obtain ⟨p, l, e, R, s, m, args, below, meth, c, Q, A, nn, D, cs⟩ := G
  intro hc hs H locs ls hP hD hS hl
  have hb : -2147483648 ≤ (0 : Int) ∧ (0 : Int) < 2147483648 := by omega
  exact lv_if_gt hG.1 hG.2.1 hd ht (fun h => kt ((zI_lt hb ha).mp h) hc hs H locs ls hP hD hS hl) (fun h => kf (by have h2 := mt (zI_lt hb ha).mpr h; omega) hc hs H locs ls hP hD hS hl)
theorem z_icmp_le {a b : Int} {off : Int} {tgt : Nat} (hG : zOK G own cc nL) (hd : decode cc pc = .ok (.if_icmp .le off, 3)) (ht : (pc : Int) + off = (tgt : Int)) (ha : -2147483648 ≤ a ∧ a < 2147483648) (hb : -2147483648 ≤ b ∧ b < 2147483648) (kt : a ≤ b → zW G F cells slots I lv st tgt) (kf : b < a → zW G F cells slots I lv st (pc + 3)) : zW G F cells slots I lv (.int (zI b) :: .int (zI a) :: st) pc := by
  obtain ⟨p, l, e, R, s, m, args, below, meth, c, Q, A, nn, D, cs⟩ := G
  intro hc hs H locs ls hP hD hS hl
  exact lv_icmp_le hG.1 hG.2.1 hd ht (fun h => kt ((zI_le ha hb).mp h) hc hs H locs ls hP hD hS hl) (fun h => kf (by have h2 := mt (zI_le ha hb).mpr h; omega) hc hs H locs ls hP hD hS hl)
theorem z_if_le {a : Int} {off : Int} {tgt : Nat} (hG : zOK G own cc nL) (hd : decode cc pc = .ok (.ifCond .le off, 3)) (ht : (pc : Int) + off = (tgt : Int)) (ha : -2147483648 ≤ a ∧ a < 2147483648) (kt : a ≤ 0 → zW G F cells slots I lv st tgt) (kf : 0 < a → zW G F cells slots I lv st (pc + 3)) : zW G F cells slots I lv (.int (zI a) :: st) pc := by
  obtain ⟨p, l, e, R, s, m, args, below, meth, c, Q, A, nn, D, cs⟩ := G
  intro hc hs H locs ls hP hD hS hl
  have hb : -2147483648 ≤ (0 : Int) ∧ (0 : Int) < 2147483648 := by omega
  exact lv_if_le hG.1 hG.2.1 hd ht (fun h => kt ((zI_le ha hb).mp h) hc hs H locs ls hP hD hS hl) (fun h => kf (by have h2 := mt (zI_le ha hb).mpr h; omega) hc hs H locs ls hP hD hS hl)
end ZR
