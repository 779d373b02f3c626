/-! the JDK's own methods: explicit worlds, Strings outside of them -/
abbrev jCl : List vw_C := [(RJ0, TJ0, 4), (RJ4, TJ4, 4)]
abbrev oSt : Type := Nat × Nat × List Nat
def oOut (os : List oSt) (A : Nat → Prop) (U : State) (H : Heap) : Prop := va_Z "java/lang/String" "COMPACT_STRINGS" "Z" (.int 1) A U H ∧ va_Zq "jdk/internal/util/Preconditions" "SIOOBE_FORMATTER" "Ljava/util/function/BiFunction;" A U H ∧ ∀ o ∈ os, oStr A U H o.1 o.2.1 o.2.2
theorem oOut.kept {os : List oSt} {A : Nat → Prop} {U : State} {H H1 : Heap} (h : oOut os A U H) (hq : ∀ a : Nat, a < H.size → ¬ A a → H1[a]? = H[a]?) : oOut os A U H1 := ⟨h.1.kept hq, h.2.1.kept hq, fun o ho => (h.2.2 o ho).kept hq⟩
theorem oOut.moved {os : List oSt} {A : Nat → Prop} {u U : State} {H : Heap} (hvm : u.vm.Alike U.vm) (h : oOut os A u H) : oOut os A U H := ⟨h.1.moved hvm, h.2.1.moved hvm, fun o ho => (h.2.2 o ho).moved hvm⟩
theorem oOut.narrow {os : List oSt} {A B : Nat → Prop} {U : State} {H : Heap} (h : oOut os A U H) (hAB : ∀ q, B q → A q) : oOut os B U H := ⟨h.1.narrow hAB, h.2.1.narrow hAB, fun o ho => (h.2.2 o ho).narrow hAB⟩
abbrev yCx : Type := Program × Launch × Env × Room × State × MethodId × Array Value × List Frame × Method × Code × (State → Prop) × (Nat → Prop) × Nat × va_G × ClassId × List oSt
def yW (G : yCx) (ws : va_W) (cells slots : Nat) (lv : zLv) (st : List Value) (pc : Nat) : Prop := match G with
  | (p, l, e, R, s, m, args, below, meth, c, Q, A, n, D, cB, os) => cells ≤ R.cells → slots ≤ R.slots → ∀ (H : Heap) (locs : List Loc) (ls : Array Slot), va_P D jCl ws H → va_D A ws → va_S A s.heap H locs → lv_has ls n lv → W p l e R s m args below meth c H locs cells slots Q (F0 m pc ls st)
def yOK (G : yCx) (own : String) (cc : ByteArray) (nL : Nat) : Prop := match G with
  | (p, l, e, R, s, m, args, below, meth, c, Q, A, n, D, cB, os) => p.tables.exec = Jvm.exec ∧ c.code = cc ∧ s.vm.findClass own = some m.cls ∧ c.maxLocals = n ∧ n = nL ∧ va_K D jCl [(cB, .byte)] s ∧ zTb s ∧ oOut os A s s.heap ∧ (∀ q, s.heap.size ≤ q → A q)
def yRoom (G : yCx) (rm : Room) : Prop := match G with
  | (p, l, e, R, s, m, args, below, meth, c, Q, A, n, D, cB, os) => rm.frames ≤ R.frames ∧ rm.locals ≤ R.locals ∧ rm.cells ≤ R.cells ∧ rm.slots ≤ R.slots
def yNm (G : yCx) (nm : String) : Prop := match G with
  | (p, l, e, R, s, m, args, below, meth, c, Q, A, n, D, cB, os) => meth.name = nm
def yCb (G : yCx) (cB : ClassId) (os : List oSt) : Prop := match G with
  | (p, l, e, R, s, m, args, below, meth, c, Q, A, n, D, cB', os') => cB' = cB ∧ os' = os
def yCl (ci : Nat) (C : String) (T : u_T) (N : Nat) (ty : Nat → FieldType) : Prop := jCl[ci]? = some (C, T, N) ∧ (∀ w ∈ u_ws C T N, zWd w) ∧ (∀ k, k < N → parseFieldDescriptor (T k).2.2.1 = some (ty k)) ∧ (∀ a, a < N → ∀ b, b < N → a ≠ b → (T a).2.1 ≠ (T b).2.1)
theorem ycl0 : yCl 0 RJ0 TJ0 4 tyJ0 := ⟨rfl, (by intro w hw; exact (show ∀ w ∈ u_ws RJ0 TJ0 4, w ∈ lw_tbl ∧ zst w = true by decide +kernel) w hw), tyJ0_ok, nmJ0⟩
theorem ycl1 : yCl 1 RJ4 TJ4 4 tyJ4 := ⟨rfl, (by intro w hw; exact (show ∀ w ∈ u_ws RJ4 TJ4 4, w ∈ lw_tbl ∧ zst w = true by decide +kernel) w hw), tyJ4_ok, nmJ4⟩
section YR
variable {G : yCx} {ws ws' : va_W} {cells slots : Nat} {lv lv' : zLv} {st : List Value} {pc : Nat} {own : String} {cc : ByteArray} {nL : Nat}
theorem y_iconst {n : Int} (v : Int32) (hG : yOK G own cc nL) (hd : decode cc pc = .ok (.iconst n, 1)) (hv : Int32.ofInt n = v) (k : yW G ws cells slots lv (.int v :: st) (pc + 1)) : yW G ws cells slots lv st pc := by
  obtain ⟨p, l, e, R, s, m, args, below, meth, c, Q, A, nn, D, cB, os⟩ := G
  intro hc hs H locs ls hP hD hS hl
  exact lv_iconst hG.1 hG.2.1 hd hv (k hc hs H locs ls hP hD hS hl)
theorem y_bipush {n : Int} (v : Int32) (hG : yOK G own cc nL) (hd : decode cc pc = .ok (.bipush n, 2)) (hv : (Int8.ofInt n).toInt32 = v) (k : yW G ws cells slots lv (.int v :: st) (pc + 2)) : yW G ws cells slots lv st pc := by
  obtain ⟨p, l, e, R, s, m, args, below, meth, c, Q, A, nn, D, cB, os⟩ := G
  intro hc hs H locs ls hP hD hS hl
  exact lv_bipush hG.1 hG.2.1 hd hv (k hc hs H locs ls hP hD hS hl)
theorem y_sipush {n : Int} (v : Int32) (hG : yOK G own cc nL) (hd : decode cc pc = .ok (.sipush n, 3)) (hv : (Int16.ofInt n).toInt32 = v) (k : yW G ws cells slots lv (.int v :: st) (pc + 3)) : yW G ws cells slots lv st pc := by
  obtain ⟨p, l, e, R, s, m, args, below, meth, c, Q, A, nn, D, cB, os⟩ := G
  intro hc hs H locs ls hP hD hS hl
  exact lv_sipush hG.1 hG.2.1 hd hv (k hc hs H locs ls hP hD hS hl)
theorem y_iload_n {i : Nat} {f : Fin 4} {x : Int32} (j : Nat) (hG : yOK G own cc nL) (hd : decode cc pc = .ok (.iload_n f, 1)) (hi : (f : Nat) = i) (hk : lv[j]? = some (i, .int x)) (k : yW G ws cells slots lv (.int x :: st) (pc + 1)) : yW G ws cells slots lv st pc := by
  obtain ⟨p, l, e, R, s, m, args, below, meth, c, Q, A, nn, D, cB, os⟩ := G
  intro hc hs H locs ls hP hD hS hl
  exact lv_iload_n hG.1 hG.2.1 hd hi (lv_at hl j hk) (k hc hs H locs ls hP hD hS hl)
theorem y_iload {i : Nat} {x : Int32} (j : Nat) (hG : yOK G own cc nL) (hd : decode cc pc = .ok (.iload i, 2)) (hk : lv[j]? = some (i, .int x)) (k : yW G ws cells slots lv (.int x :: st) (pc + 2)) : yW G ws cells slots lv st pc := by
  obtain ⟨p, l, e, R, s, m, args, below, meth, c, Q, A, nn, D, cB, os⟩ := G
  intro hc hs H locs ls hP hD hS hl
  exact lv_iload hG.1 hG.2.1 hd (lv_at hl j hk) (k hc hs H locs ls hP hD hS hl)
theorem y_aload_n {i x : Nat} {f : Fin 4} (j : Nat) (hG : yOK G own cc nL) (hd : decode cc pc = .ok (.aload_n f, 1)) (hi : (f : Nat) = i) (hk : lv[j]? = some (i, .ref x)) (k : yW G ws cells slots lv (.ref x :: st) (pc + 1)) : yW G ws cells slots lv st pc := by
  obtain ⟨p, l, e, R, s, m, args, below, meth, c, Q, A, nn, D, cB, os⟩ := G
  intro hc hs H locs ls hP hD hS hl
  exact lv_aload_n hG.1 hG.2.1 hd hi (lv_at hl j hk) (k hc hs H locs ls hP hD hS hl)
theorem y_aload {i x : Nat} (j : Nat) (hG : yOK G own cc nL) (hd : decode cc pc = .ok (.aload i, 2)) (hk : lv[j]? = some (i, .ref x)) (k : yW G ws cells slots lv (.ref x :: st) (pc + 2)) : yW G ws cells slots lv st pc := by
  obtain ⟨p, l, e, R, s, m, args, below, meth, c, Q, A, nn, D, cB, os⟩ := G
  intro hc hs H locs ls hP hD hS hl
  exact lv_aload hG.1 hG.2.1 hd (lv_at hl j hk) (k hc hs H locs ls hP hD hS hl)
theorem y_istore_n {i : Nat} {f : Fin 4} {x : Int32} (hG : yOK G own cc nL) (hd : decode cc pc = .ok (.istore_n f, 1)) (hi : (f : Nat) = i) (hn : i < nL) (hl' : (i, Value.int x) :: lv.filter (fun q => !(q.1 == i) && !(q.1 + 1 == i && q.2.category == 2)) = lv') (k : yW G ws cells slots lv' st (pc + 1)) : yW G ws cells slots lv (.int x :: st) pc := by
  obtain ⟨p, l, e, R, s, m, args, below, meth, c, Q, A, nn, D, cB, os⟩ := G
  intro hc hs H locs ls hP hD hS hl
  have hn2 : i < nn := by have := hG.2.2.2.2.1; omega
  exact lv_istore_n hG.1 hG.2.1 hd hi hl hn2 hl' (fun ls2 hl2 => k hc hs H locs ls2 hP hD hS hl2)
theorem y_istore {i : Nat} {x : Int32} (hG : yOK G own cc nL) (hd : decode cc pc = .ok (.istore i, 2)) (hn : i < nL) (hl' : (i, Value.int x) :: lv.filter (fun q => !(q.1 == i) && !(q.1 + 1 == i && q.2.category == 2)) = lv') (k : yW G ws cells slots lv' st (pc + 2)) : yW G ws cells slots lv (.int x :: st) pc := by
  obtain ⟨p, l, e, R, s, m, args, below, meth, c, Q, A, nn, D, cB, os⟩ := G
  intro hc hs H locs ls hP hD hS hl
  have hn2 : i < nn := by have := hG.2.2.2.2.1; omega
  exact lv_istore hG.1 hG.2.1 hd hl hn2 hl' (fun ls2 hl2 => k hc hs H locs ls2 hP hD hS hl2)
theorem y_astore_n {i : Nat} {f : Fin 4} {x : Nat} (hG : yOK G own cc nL) (hd : decode cc pc = .ok (.astore_n f, 1)) (hi : (f : Nat) = i) (hn : i < nL) (hl' : (i, Value.ref x) :: lv.filter (fun q => !(q.1 == i) && !(q.1 + 1 == i && q.2.category == 2)) = lv') (k : yW G ws cells slots lv' st (pc + 1)) : yW G ws cells slots lv (.ref x :: st) pc := by
  obtain ⟨p, l, e, R, s, m, args, below, meth, c, Q, A, nn, D, cB, os⟩ := G
  intro hc hs H locs ls hP hD hS hl
  have hn2 : i < nn := by have := hG.2.2.2.2.1; omega
  exact lv_astore_n hG.1 hG.2.1 hd hi hl hn2 hl' (fun ls2 hl2 => k hc hs H locs ls2 hP hD hS hl2)
theorem y_astore {i : Nat} {x : Nat} (hG : yOK G own cc nL) (hd : decode cc pc = .ok (.astore i, 2)) (hn : i < nL) (hl' : (i, Value.ref x) :: lv.filter (fun q => !(q.1 == i) && !(q.1 + 1 == i && q.2.category == 2)) = lv') (k : yW G ws cells slots lv' st (pc + 2)) : yW G ws cells slots lv (.ref x :: st) pc := by
  obtain ⟨p, l, e, R, s, m, args, below, meth, c, Q, A, nn, D, cB, os⟩ := G
  intro hc hs H locs ls hP hD hS hl
  have hn2 : i < nn := by have := hG.2.2.2.2.1; omega
  exact lv_astore hG.1 hG.2.1 hd hl hn2 hl' (fun ls2 hl2 => k hc hs H locs ls2 hP hD hS hl2)
theorem y_iadd {x y z : Int32} (hG : yOK G own cc nL) (hd : decode cc pc = .ok (.iadd, 1)) (hz : x + y = z) (k : yW G ws cells slots lv (.int z :: st) (pc + 1)) : yW G ws cells slots lv (.int y :: .int x :: st) pc := by
  obtain ⟨p, l, e, R, s, m, args, below, meth, c, Q, A, nn, D, cB, os⟩ := G
  intro hc hs H locs ls hP hD hS hl
  subst hz
  exact lv_iadd hG.1 hG.2.1 hd (k hc hs H locs ls hP hD hS hl)
theorem y_isub {x y z : Int32} (hG : yOK G own cc nL) (hd : decode cc pc = .ok (.isub, 1)) (hz : x - y = z) (k : yW G ws cells slots lv (.int z :: st) (pc + 1)) : yW G ws cells slots lv (.int y :: .int x :: st) pc := by
  obtain ⟨p, l, e, R, s, m, args, below, meth, c, Q, A, nn, D, cB, os⟩ := G
  intro hc hs H locs ls hP hD hS hl
  subst hz
  exact lv_isub hG.1 hG.2.1 hd (k hc hs H locs ls hP hD hS hl)
theorem y_ishl {x y z : Int32} (hG : yOK G own cc nL) (hd : decode cc pc = .ok (.ishl, 1)) (hz : x <<< (y &&& 31) = z) (k : yW G ws cells slots lv (.int z :: st) (pc + 1)) : yW G ws cells slots lv (.int y :: .int x :: st) pc := by
  obtain ⟨p, l, e, R, s, m, args, below, meth, c, Q, A, nn, D, cB, os⟩ := G
  intro hc hs H locs ls hP hD hS hl
  subst hz
  exact lv_ishl hG.1 hG.2.1 hd (k hc hs H locs ls hP hD hS hl)
theorem y_ishr {x y z : Int32} (hG : yOK G own cc nL) (hd : decode cc pc = .ok (.ishr, 1)) (hz : x >>> (y &&& 31) = z) (k : yW G ws cells slots lv (.int z :: st) (pc + 1)) : yW G ws cells slots lv (.int y :: .int x :: st) pc := by
  obtain ⟨p, l, e, R, s, m, args, below, meth, c, Q, A, nn, D, cB, os⟩ := G
  intro hc hs H locs ls hP hD hS hl
  subst hz
  exact lv_ishr hG.1 hG.2.1 hd (k hc hs H locs ls hP hD hS hl)
theorem y_iand {x y z : Int32} (hG : yOK G own cc nL) (hd : decode cc pc = .ok (.iand, 1)) (hz : x &&& y = z) (k : yW G ws cells slots lv (.int z :: st) (pc + 1)) : yW G ws cells slots lv (.int y :: .int x :: st) pc := by
  obtain ⟨p, l, e, R, s, m, args, below, meth, c, Q, A, nn, D, cB, os⟩ := G
  intro hc hs H locs ls hP hD hS hl
  subst hz
  exact lv_iand hG.1 hG.2.1 hd (k hc hs H locs ls hP hD hS hl)
theorem y_i2c {x z : Int32} (hG : yOK G own cc nL) (hd : decode cc pc = .ok (.i2c, 1)) (hz : (x.toUInt32 % 65536).toInt32 = z) (k : yW G ws cells slots lv (.int z :: st) (pc + 1)) : yW G ws cells slots lv (.int x :: st) pc := by
  obtain ⟨p, l, e, R, s, m, args, below, meth, c, Q, A, nn, D, cB, os⟩ := G
  intro hc hs H locs ls hP hD hS hl
  exact lv_i2c hG.1 hG.2.1 hd hz (k hc hs H locs ls hP hD hS hl)
theorem y_dup {v : Value} (hG : yOK G own cc nL) (hd : decode cc pc = .ok (.dup, 1)) (hv : v.category = 1) (k : yW G ws cells slots lv (v :: v :: st) (pc + 1)) : yW G ws cells slots lv (v :: st) pc := by
  obtain ⟨p, l, e, R, s, m, args, below, meth, c, Q, A, nn, D, cB, os⟩ := G
  intro hc hs H locs ls hP hD hS hl
  exact lv_dup hG.1 hG.2.1 hd hv (k hc hs H locs ls hP hD hS hl)
theorem y_pop {v : Value} (hG : yOK G own cc nL) (hd : decode cc pc = .ok (.pop, 1)) (hv : v.category = 1) (k : yW G ws cells slots lv st (pc + 1)) : yW G ws cells slots lv (v :: st) pc := by
  obtain ⟨p, l, e, R, s, m, args, below, meth, c, Q, A, nn, D, cB, os⟩ := G
  intro hc hs H locs ls hP hD hS hl
  exact lv_pop hG.1 hG.2.1 hd hv (k hc hs H locs ls hP hD hS hl)
theorem y_null (hG : yOK G own cc nL) (hd : decode cc pc = .ok (.aconst_null, 1)) (k : yW G ws cells slots lv (.null :: st) (pc + 1)) : yW G ws cells slots lv st pc := by
  obtain ⟨p, l, e, R, s, m, args, below, meth, c, Q, A, nn, D, cB, os⟩ := G
  intro hc hs H locs ls hP hD hS hl
  exact lv_null hG.1 hG.2.1 hd (k hc hs H locs ls hP hD hS hl)
theorem y_goto {off : Int} {tgt : Nat} (hG : yOK G own cc nL) (hd : decode cc pc = .ok (.goto off, 3)) (ht : (pc : Int) + off = (tgt : Int)) (k : yW G ws cells slots lv st tgt) : yW G ws cells slots lv st pc := by
  obtain ⟨p, l, e, R, s, m, args, below, meth, c, Q, A, nn, D, cB, os⟩ := G
  intro hc hs H locs ls hP hD hS hl
  exact lv_goto hG.1 hG.2.1 hd ht (k hc hs H locs ls hP hD hS hl)
theorem y_nonnull {x : Nat} {off : Int} {tgt : Nat} (hG : yOK G own cc nL) (hd : decode cc pc = .ok (.ifnonnull off, 3)) (ht : (pc : Int) + off = (tgt : Int)) (k : yW G ws cells slots lv st tgt) : yW G ws cells slots lv (.ref x :: st) pc := by
  obtain ⟨p, l, e, R, s, m, args, below, meth, c, Q, A, nn, D, cB, os⟩ := G
  intro hc hs H locs ls hP hD hS hl
  exact lv_ifnonnull hG.1 hG.2.1 hd ht (k hc hs H locs ls hP hD hS hl)
theorem y_if_eq {x : Int32} {off : Int} {tgt : Nat} (hG : yOK G own cc nL) (hd : decode cc pc = .ok (.ifCond .eq off, 3)) (ht : (pc : Int) + off = (tgt : Int)) (kt : x = 0 → yW G ws cells slots lv st tgt) (kf : ¬ x = 0 → yW G ws cells slots lv st (pc + 3)) : yW G ws cells slots lv (.int x :: st) pc := by
  obtain ⟨p, l, e, R, s, m, args, below, meth, c, Q, A, nn, D, cB, os⟩ := G
  intro hc hs H locs ls hP hD hS hl
  exact lv_if_eq hG.1 hG.2.1 hd ht (fun h => kt h hc hs H locs ls hP hD hS hl) (fun h => kf h hc hs H locs ls hP hD hS hl)
theorem y_if_ne {x : Int32} {off : Int} {tgt : Nat} (hG : yOK G own cc nL) (hd : decode cc pc = .ok (.ifCond .ne off, 3)) (ht : (pc : Int) + off = (tgt : Int)) (kt : ¬ x = 0 → yW G ws cells slots lv st tgt) (kf : x = 0 → yW G ws cells slots lv st (pc + 3)) : yW G ws cells slots lv (.int x :: st) pc := by
  obtain ⟨p, l, e, R, s, m, args, below, meth, c, Q, A, nn, D, cB, os⟩ := G
  intro hc hs H locs ls hP hD hS hl
  exact lv_if_ne hG.1 hG.2.1 hd ht (fun h => kt h hc hs H locs ls hP hD hS hl) (fun h => kf h hc hs H locs ls hP hD hS hl)
theorem y_if_le {x : Int32} {off : Int} {tgt : Nat} (hG : yOK G own cc nL) (hd : decode cc pc = .ok (.ifCond .le off, 3)) (ht : (pc : Int) + off = (tgt : Int)) (kt : x ≤ 0 → yW G ws cells slots lv st tgt) (kf : ¬ x ≤ 0 → yW G ws cells slots lv st (pc + 3)) : yW G ws cells slots lv (.int x :: st) pc := by
  obtain ⟨p, l, e, R, s, m, args, below, meth, c, Q, A, nn, D, cB, os⟩ := G
  intro hc hs H locs ls hP hD hS hl
  exact lv_if_le hG.1 hG.2.1 hd ht (fun h => kt h hc hs H locs ls hP hD hS hl) (fun h => kf h hc hs H locs ls hP hD hS hl)
theorem y_if_lt {x : Int32} {off : Int} {tgt : Nat} (hG : yOK G own cc nL) (hd : decode cc pc = .ok (.ifCond .lt off, 3)) (ht : (pc : Int) + off = (tgt : Int)) (kt : x < 0 → yW G ws cells slots lv st tgt) (kf : ¬ x < 0 → yW G ws cells slots lv st (pc + 3)) : yW G ws cells slots lv (.int x :: st) pc := by
  obtain ⟨p, l, e, R, s, m, args, below, meth, c, Q, A, nn, D, cB, os⟩ := G
  intro hc hs H locs ls hP hD hS hl
  exact lv_if_lt hG.1 hG.2.1 hd ht (fun h => kt h hc hs H locs ls hP hD hS hl) (fun h => kf h hc hs H locs ls hP hD hS hl)
theorem y_icmp_eq {x y : Int32} {off : Int} {tgt : Nat} (hG : yOK G own cc nL) (hd : decode cc pc = .ok (.if_icmp .eq off, 3)) (ht : (pc : Int) + off = (tgt : Int)) (kt : x = y → yW G ws cells slots lv st tgt) (kf : ¬ x = y → yW G ws cells slots lv st (pc + 3)) : yW G ws cells slots lv (.int y :: .int x :: st) pc := by
  obtain ⟨p, l, e, R, s, m, args, below, meth, c, Q, A, nn, D, cB, os⟩ := G
  intro hc hs H locs ls hP hD hS hl
  exact lv_icmp_eq hG.1 hG.2.1 hd ht (fun h => kt h hc hs H locs ls hP hD hS hl) (fun h => kf h hc hs H locs ls hP hD hS hl)
theorem y_icmp_ne {x y : Int32} {off : Int} {tgt : Nat} (hG : yOK G own cc nL) (hd : decode cc pc = .ok (.if_icmp .ne off, 3)) (ht : (pc : Int) + off = (tgt : Int)) (kt : ¬ x = y → yW G ws cells slots lv st tgt) (kf : x = y → yW G ws cells slots lv st (pc + 3)) : yW G ws cells slots lv (.int y :: .int x :: st) pc := by
  obtain ⟨p, l, e, R, s, m, args, below, meth, c, Q, A, nn, D, cB, os⟩ := G
  intro hc hs H locs ls hP hD hS hl
  exact lv_icmp_ne hG.1 hG.2.1 hd ht (fun h => kt h hc hs H locs ls hP hD hS hl) (fun h => kf h hc hs H locs ls hP hD hS hl)
theorem y_icmp_ge {x y : Int32} {off : Int} {tgt : Nat} (hG : yOK G own cc nL) (hd : decode cc pc = .ok (.if_icmp .ge off, 3)) (ht : (pc : Int) + off = (tgt : Int)) (kt : y ≤ x → yW G ws cells slots lv st tgt) (kf : ¬ y ≤ x → yW G ws cells slots lv st (pc + 3)) : yW G ws cells slots lv (.int y :: .int x :: st) pc := by
  obtain ⟨p, l, e, R, s, m, args, below, meth, c, Q, A, nn, D, cB, os⟩ := G
  intro hc hs H locs ls hP hD hS hl
  exact lv_icmp_ge hG.1 hG.2.1 hd ht (fun h => kt h hc hs H locs ls hP hD hS hl) (fun h => kf h hc hs H locs ls hP hD hS hl)
theorem y_icmp_gt {x y : Int32} {off : Int} {tgt : Nat} (hG : yOK G own cc nL) (hd : decode cc pc = .ok (.if_icmp .gt off, 3)) (ht : (pc : Int) + off = (tgt : Int)) (kt : y < x → yW G ws cells slots lv st tgt) (kf : ¬ y < x → yW G ws cells slots lv st (pc + 3)) : yW G ws cells slots lv (.int y :: .int x :: st) pc := by
  obtain ⟨p, l, e, R, s, m, args, below, meth, c, Q, A, nn, D, cB, os⟩ := G
  intro hc hs H locs ls hP hD hS hl
  exact lv_icmp_gt hG.1 hG.2.1 hd ht (fun h => kt h hc hs H locs ls hP hD hS hl) (fun h => kf h hc hs H locs ls hP hD hS hl)
theorem y_icmp_lt {x y : Int32} {off : Int} {tgt : Nat} (hG : yOK G own cc nL) (hd : decode cc pc = .ok (.if_icmp .lt off, 3)) (ht : (pc : Int) + off = (tgt : Int)) (kt : x < y → yW G ws cells slots lv st tgt) (kf : ¬ x < y → yW G ws cells slots lv st (pc + 3)) : yW G ws cells slots lv (.int y :: .int x :: st) pc := by
  obtain ⟨p, l, e, R, s, m, args, below, meth, c, Q, A, nn, D, cB, os⟩ := G
  intro hc hs H locs ls hP hD hS hl
  exact lv_icmp_lt hG.1 hG.2.1 hd ht (fun h => kt h hc hs H locs ls hP hD hS hl) (fun h => kf h hc hs H locs ls hP hD hS hl)
theorem y_ldc {index : Nat} {v : Int32} (hG : yOK G own cc nL) (hl : zWd (.constant own index v)) (hd : decode cc pc = .ok (.ldc index, 2)) (k : yW G ws cells slots lv (.int v :: st) (pc + 2)) : yW G ws cells slots lv st pc := by
  obtain ⟨p, l, e, R, s, m, args, below, meth, c, Q, A, nn, D, cB, os⟩ := G
  intro hc hs H locs ls hP hD hS hl2
  exact lv_ldc hG.1 hG.2.1 hG.2.2.1 (hG.2.2.2.2.2.2.1.at hl _) hd (k hc hs H locs ls hP hD hS hl2)
/-! statics, Strings outside -/
theorem y_compact {index : Nat} (hG : yOK G own cc nL) (hlink : zWd (.fieldLink own index "java/lang/String" "COMPACT_STRINGS" "Z")) (hd : decode cc pc = .ok (.getstatic index, 3)) (k : yW G ws cells slots lv (.int 1 :: st) (pc + 3)) : yW G ws cells slots lv st pc := by
  obtain ⟨p, l, e, R, s, m, args, below, meth, c, Q, A, nn, D, cB, os⟩ := G
  intro hc hs H locs ls hP hD hS hl
  obtain ⟨g1, g2, g3, g4, g5, g6, g7, g8, g9⟩ := hG
  exact va_gets g1 g2 g8.1 hS g3 (g7.at hlink _) (fun _ h => h) hd (k hc hs H locs ls hP hD hS hl)
theorem y_former {index : Nat} (hG : yOK G own cc nL) (hlink : zWd (.fieldLink own index "jdk/internal/util/Preconditions" "SIOOBE_FORMATTER" "Ljava/util/function/BiFunction;")) (hd : decode cc pc = .ok (.getstatic index, 3)) (k : ∀ v : Value, v = .null ∨ (∃ x, v = .ref x) → yW G ws cells slots lv (v :: st) (pc + 3)) : yW G ws cells slots lv st pc := by
  obtain ⟨p, l, e, R, s, m, args, below, meth, c, Q, A, nn, D, cB, os⟩ := G
  intro hc hs H locs ls hP hD hS hl
  obtain ⟨g1, g2, g3, g4, g5, g6, g7, g8, g9⟩ := hG
  rcases g8.2.1 with h | ⟨t, h⟩
  · exact va_gets g1 g2 h hS g3 (g7.at hlink _) (fun _ h => h) hd (k _ (Or.inl rfl) hc hs H locs ls hP hD hS hl)
  · exact va_gets g1 g2 h hS g3 (g7.at hlink _) (fun _ h => h) hd (k _ (Or.inr ⟨t, rfl⟩) hc hs H locs ls hP hD hS hl)
theorem y_scod {index a va : Nat} {bs : List Nat} {cB : ClassId} {os : List oSt} (hG : yOK G own cc nL) (hC : yCb G cB os) (ho : (a, va, bs) ∈ os) (hlink : zWd (.fieldLink own index "java/lang/String" "coder" "B")) (hd : decode cc pc = .ok (.getfield index, 3)) (k : yW G ws cells slots lv (.int 0 :: st) (pc + 3)) : yW G ws cells slots lv (.ref a :: st) pc := by
  obtain ⟨p, l, e, R, s, m, args, below, meth, c, Q, A, nn, D, cB, os⟩ := G
  intro hc hs H locs ls hP hD hS hl
  obtain ⟨g1, g2, g3, g4, g5, g6, g7, g8, g9⟩ := hG
  obtain ⟨rfl, rfl⟩ := hC
  obtain ⟨-, ⟨cf, kf, i, f, cell, h1, h2, h3, h4, h5, h6⟩, -, -⟩ := (g8.2.2 _ ho).kept hS.2.1
  exact W.getf g1 g2 g3 (g7.at hlink _) h1 h2 h3 h4 (v := .int 0) h5 rfl rfl hd (k hc hs H locs ls hP hD hS hl)
theorem y_sval {index a va : Nat} {bs : List Nat} {cB : ClassId} {os : List oSt} (hG : yOK G own cc nL) (hC : yCb G cB os) (ho : (a, va, bs) ∈ os) (hlink : zWd (.fieldLink own index "java/lang/String" "value" "[B")) (hd : decode cc pc = .ok (.getfield index, 3)) (k : yW G ws cells slots lv (.ref va :: st) (pc + 3)) : yW G ws cells slots lv (.ref a :: st) pc := by
  obtain ⟨p, l, e, R, s, m, args, below, meth, c, Q, A, nn, D, cB, os⟩ := G
  intro hc hs H locs ls hP hD hS hl
  obtain ⟨g1, g2, g3, g4, g5, g6, g7, g8, g9⟩ := hG
  obtain ⟨rfl, rfl⟩ := hC
  obtain ⟨-, -, ⟨cf, kf, i, f, cell, h1, h2, h3, h4, h5, h6⟩, -⟩ := (g8.2.2 _ ho).kept hS.2.1
  exact W.getf g1 g2 g3 (g7.at hlink _) h1 h2 h3 h4 (v := .ref va) h5 rfl rfl hd (k hc hs H locs ls hP hD hS hl)
theorem y_slen {a va : Nat} {bs : List Nat} {cB : ClassId} {os : List oSt} (hG : yOK G own cc nL) (hC : yCb G cB os) (ho : (a, va, bs) ∈ os) (hd : decode cc pc = .ok (.arraylength, 1)) (k : yW G ws cells slots lv (.int (nI bs.length) :: st) (pc + 1)) : yW G ws cells slots lv (.ref va :: st) pc := by
  obtain ⟨p, l, e, R, s, m, args, below, meth, c, Q, A, nn, D, cB, os⟩ := G
  intro hc hs H locs ls hP hD hS hl
  obtain ⟨g1, g2, g3, g4, g5, g6, g7, g8, g9⟩ := hG
  obtain ⟨rfl, rfl⟩ := hC
  exact va_tlen g1 g2 (g8.2.2 _ ho).2.2.2 hS rfl hd (k hc hs H locs ls hP hD hS hl)
theorem y_sbyte {a va i : Nat} {bs : List Nat} {cB : ClassId} {os : List oSt} (hG : yOK G own cc nL) (hC : yCb G cB os) (ho : (a, va, bs) ∈ os) (hi : i < bs.length) (hb : bs.length < 2 ^ 31) (hd : decode cc pc = .ok (.baload, 1)) (k : yW G ws cells slots lv (.int (nI (bs.getD i 0)) :: st) (pc + 1)) : yW G ws cells slots lv (.int (nI i) :: .ref va :: st) pc := by
  obtain ⟨p, l, e, R, s, m, args, below, meth, c, Q, A, nn, D, cB, os⟩ := G
  intro hc hs H locs ls hP hD hS hl
  obtain ⟨g1, g2, g3, g4, g5, g6, g7, g8, g9⟩ := hG
  obtain ⟨rfl, rfl⟩ := hC
  exact va_tb g1 g2 (g8.2.2 _ ho).2.2.2 hS (nI_in hi hb) (by rw [nI_clamp (by omega)]) hd (k hc hs H locs ls hP hD hS hl)
/-! the world's own cells -/
theorem y_get {ci N index a : Nat} {C : String} {T : u_T} {ty : Nat → FieldType} {fs : List Value} {v : Value} (q0 k : Nat) (hG : yOK G own cc nL) (hcl : yCl ci C T N ty) (he : ws[q0]? = some (a, .inr (ci, fs))) (hk : k < N) (hv : fs[k]? = some v) (hlink : zWd (.fieldLink own index (T k).1 (T k).2.1 (T k).2.2.1)) (hd : decode cc pc = .ok (.getfield index, 3)) (kk : yW G ws cells slots lv (v :: st) (pc + 3)) : yW G ws cells slots lv (.ref a :: st) pc := by
  obtain ⟨p, l, e, R, s, m, args, below, meth, c, Q, A, nn, D, cB, os⟩ := G
  intro hc hs H locs ls hP hD hS hl
  obtain ⟨g1, g2, g3, g4, g5, g6, g7, g8, g9⟩ := hG
  exact va_get (ref := (T k).1) (v := v) g1 g2 (Ts := u_ws C T N) (fun w hw => g7.at (hcl.2.1 w hw) _) (fun _ h => h) g3 g6 hP q0 he hcl.1 k hk (g7.at hlink _) (fun _ h => h) hv hd (kk hc hs H locs ls hP hD hS hl)
theorem y_put {ci N index a : Nat} {C : String} {T : u_T} {ty : Nat → FieldType} {fs : List Value} {v : Value} (q0 k : Nat) (hG : yOK G own cc nL) (hcl : yCl ci C T N ty) (he : ws[q0]? = some (a, .inr (ci, fs))) (hk : k < N) (hf : k < fs.length) (hlink : zWd (.fieldLink own index (T k).1 (T k).2.1 (T k).2.2.1)) (hfin : (T k).2.2.2 = false) (hn : narrow (ty k) v = v) (hfit : fits (ty k) v = true) (hw : ws.set q0 (a, .inr (ci, fs.set k v)) = ws') (hd : decode cc pc = .ok (.putfield index, 3)) (kk : yW G ws' cells slots lv st (pc + 3)) : yW G ws cells slots lv (v :: .ref a :: st) pc := by
  obtain ⟨p, l, e, R, s, m, args, below, meth, c, Q, A, nn, D, cB, os⟩ := G
  intro hc hs H locs ls hP hD hS hl
  obtain ⟨g1, g2, g3, g4, g5, g6, g7, g8, g9⟩ := hG
  subst hw
  exact va_put (ref := (T k).1) g1 g2 (Ts := u_ws C T N) (fun w hw => g7.at (hcl.2.1 w hw) _) (fun _ h => h) ty hcl.2.2.1 hcl.2.2.2 g3 g6 hP hD hS q0 he hcl.1 k hk (g7.at hlink _) (fun _ h => h) hfin (hcl.2.2.1 k hk) hn hfit hf hd (fun H1 locs1 hP1 hD1 hS1 => kk hc hs H1 locs1 ls hP1 hD1 hS1 hl)
theorem y_putF {ci N index a : Nat} {C : String} {T : u_T} {ty : Nat → FieldType} {fs : List Value} {v : Value} (q0 k : Nat) (hG : yOK G own cc nL) (hI : yNm G "<init>") (hcl : yCl ci C T N ty) (he : ws[q0]? = some (a, .inr (ci, fs))) (hk : k < N) (hf : k < fs.length) (hlink : zWd (.fieldLink own index (T k).1 (T k).2.1 (T k).2.2.1)) (hfin : (T k).2.2.2 = true) (hdecl : (T k).1 = own) (hn : narrow (ty k) v = v) (hfit : fits (ty k) v = true) (hw : ws.set q0 (a, .inr (ci, fs.set k v)) = ws') (hd : decode cc pc = .ok (.putfield index, 3)) (kk : yW G ws' cells slots lv st (pc + 3)) : yW G ws cells slots lv (v :: .ref a :: st) pc := by
  obtain ⟨p, l, e, R, s, m, args, below, meth, c, Q, A, nn, D, cB, os⟩ := G
  intro hc hs H locs ls hP hD hS hl
  obtain ⟨g1, g2, g3, g4, g5, g6, g7, g8, g9⟩ := hG
  subst hw
  exact va_putF (ref := (T k).1) g1 g2 (Ts := u_ws C T N) (fun w hw => g7.at (hcl.2.1 w hw) _) (fun _ h => h) ty hcl.2.2.1 hcl.2.2.2 g3 g6 hP hD hS q0 he hcl.1 k hk (g7.at hlink _) (fun _ h => h) hfin hI hdecl (hcl.2.2.1 k hk) hn hfit hf hd (fun H1 locs1 hP1 hD1 hS1 => kk hc hs H1 locs1 ls hP1 hD1 hS1 hl)
theorem y_new {ci N index : Nat} {C : String} {T : u_T} {ty : Nat → FieldType} {rm : Room} (fs : List Value) (hG : yOK G own cc nL) (hRm : yRoom G rm) (hcl : yCl ci C T N ty) (hlk : zWd (.classLink own index C)) (hin : zWd (.instantiable C N)) (hini : zWd (.initialized C)) (hfs : ∀ j, j < N → defaultValue (ty j) = vp_V fs j) (hce : cells + 1 ≤ rm.cells) (hsl : slots + N ≤ rm.slots) (hd : decode cc pc = .ok (.new index, 3)) (kk : ∀ a, yW G (ws ++ [(a, .inr (ci, fs))]) (cells + 1) (slots + N) lv (.ref a :: st) (pc + 3)) : yW G ws cells slots lv st pc := by
  obtain ⟨p, l, e, R, s, m, args, below, meth, c, Q, A, nn, D, cB, os⟩ := G
  intro hc hs H locs ls hP hD hS hl
  have r3 := hRm.2.2.1
  have r4 := hRm.2.2.2
  obtain ⟨g1, g2, g3, g4, g5, g6, g7, g8, g9⟩ := hG
  exact va_new (ci := ci) (fs := fs) g1 g2 (Ts := u_ws C T N) (fun w hw => g7.at (hcl.2.1 w hw) _) (fun _ h => h) ty hcl.2.2.1 g3 (g7.at hlk _) (g7.at hin _) (g7.at hini _) g6 hP hD hS g9 hcl.1 hfs (by omega) (by omega) hd (fun q H1 hP1 hD1 hS1 => kk q (by omega) (by omega) H1 locs ls hP1 hD1 hS1 hl)
theorem y_newB {N : Nat} {rm : Room} {cB : ClassId} {os : List oSt} (hG : yOK G own cc nL) (hC : yCb G cB os) (hRm : yRoom G rm) (harr : zWd (.arrayClass .byte)) (hN : N ≤ 100000) (hce : cells + 1 ≤ rm.cells) (hsl : slots + N ≤ rm.slots) (hd : decode cc pc = .ok (.newarray .byte, 2)) (kk : ∀ a, yW G (ws ++ [(a, .inl (cB, N, .inl (fun _ => 0)))]) (cells + 1) (slots + N) lv (.ref a :: st) (pc + 2)) : yW G ws cells slots lv (.int (nI N) :: st) pc := by
  obtain ⟨p, l, e, R, s, m, args, below, meth, c, Q, A, nn, D, cB', os'⟩ := G
  intro hc hs H locs ls hP hD hS hl
  obtain ⟨g1, g2, g3, g4, g5, g6, g7, g8, g9⟩ := hG
  obtain ⟨hC1, hC2⟩ := hC
  subst hC1
  have r3 := hRm.2.2.1
  have r4 := hRm.2.2.2
  refine va_newa (atype := .byte) (ty := .byte) (N' := N) (a0 := (N, .inl (fun _ => 0))) g1 g2 (g7.at harr _) rfl g6 hP hD hS g9 (fun cA => rfl) (nI_pos (by omega)) (nI_clamp (by omega)) (by show N * _ ≤ 536870912; exact Nat.le_trans (Nat.mul_le_mul hN (Nat.le_refl _)) (by decide)) (by omega) (by omega) hd (fun q cA H1 hK2 hP1 hD1 hS1 => ?_)
  have e1 := (hK2.2 0 (cB', .byte) rfl).2
  have e2 := (hK2.2 1 (cA, .byte) rfl).2
  have e3 : some cB' = some cA := e1.symm.trans e2
  have e4 : cA = cB' := (Option.some.inj e3).symm
  subst e4
  exact kk q (by omega) (by omega) H1 locs ls hP1 hD1 hS1 hl
theorem y_alen {a N : Nat} {x : (Nat → Int32) ⊕ (Nat → Int64) ⊕ (Nat → UInt32) ⊕ (Nat → UInt64) ⊕ (Nat → Option Nat)} {cB : ClassId} {os : List oSt} (q0 : Nat) (hG : yOK G own cc nL) (hC : yCb G cB os) (he : ws[q0]? = some (a, .inl (cB, N, x))) (hd : decode cc pc = .ok (.arraylength, 1)) (kk : yW G ws cells slots lv (.int (nI N) :: st) (pc + 1)) : yW G ws cells slots lv (.ref a :: st) pc := by
  obtain ⟨p, l, e, R, s, m, args, below, meth, c, Q, A, nn, D, cB', os'⟩ := G
  intro hc hs H locs ls hP hD hS hl
  obtain ⟨g1, g2, g3, g4, g5, g6, g7, g8, g9⟩ := hG
  obtain ⟨hC1, hC2⟩ := hC
  subst hC1
  exact va_alen g1 g2 g6 hP q0 0 he rfl rfl hd (kk hc hs H locs ls hP hD hS hl)
abbrev yArr (own : String) (index : Nat) : Prop := zWd (.methodLink own index arraycopyName) ∧ zWd (.native arraycopyName) ∧ zWd (.static arraycopyName) ∧ zWd (.initialized "java/lang/System")
/-- arraycopy within the world -/
theorem y_copy {index a0 a n0 n1 sp dp n : Nat} {f g : Nat → Int32} {rm : Room} {cB : ClassId} {os : List oSt} (q0 q1 : Nat) (hG : yOK G own cc nL) (hC : yCb G cB os) (hRm : yRoom G rm) (hw : yArr own index) (ha0 : ws[q0]? = some (a0, .inl (cB, n0, .inl f))) (ha1 : ws[q1]? = some (a, .inl (cB, n1, .inl g))) (h4 : sp + n ≤ n0) (h5 : dp + n ≤ n1) (hb : n0 < 2 ^ 31 ∧ n1 < 2 ^ 31) (hfit : ∀ i, i < n → fits .byte (.int (f (sp + i))) = true) (hfr : 1 ≤ rm.frames) (hlo : (st.map fun v => v.category).sum + 40 ≤ rm.locals) (hws : ws.set q1 (a, .inl (cB, n1, .inl (va_cpy f g sp dp n))) = ws') (hd : decode cc pc = .ok (.invokestatic index, 3))
    (kk : yW G ws' cells slots lv st (pc + 3)) : yW G ws cells slots lv (.int (nI n) :: .int (nI dp) :: .ref a :: .int (nI sp) :: .ref a0 :: st) pc := by
  obtain ⟨p, l, e, R, s, m, args, below, meth, c, Q, A, nn, D, cB', os'⟩ := G
  intro hc hs H locs ls hP hD hS hl
  obtain ⟨g1, g2, g3, g4, g5, g6, g7, g8, g9⟩ := hG
  obtain ⟨hC1, hC2⟩ := hC
  subst hC1
  subst hws
  have r1 := hRm.1
  have r2 := hRm.2.1
  have e1 : (nI sp).toNatClampNeg = sp := nI_clamp (by omega)
  have e2 : (nI dp).toNatClampNeg = dp := nI_clamp (by omega)
  have e3 : (nI n).toNatClampNeg = n := nI_clamp (by omega)
  have hnf : nativeFrameWords "java/lang/System" "arraycopy" 5 ≤ 29 := by decide +kernel
  refine va_copyi (sp := nI sp) (dp := nI dp) (n := nI n) (rest := st) g1 g2 (g4.trans hl.1.symm) g3 (g7.at hw.1 _) (g7.at hw.2.1 _) (g7.at hw.2.2.1 _) (g7.at hw.2.2.2 _) g6 hP hD hS q0 q1 0 0 ha0 ha1 rfl rfl rfl (nI_pos (by omega)) (nI_pos (by omega)) (nI_pos (by omega)) (by rw [e1, e3]; exact h4) (by rw [e2, e3]; exact h5) (by rw [e1, e3]; exact hfit) (by omega) (by omega) hd (fun H1 locs1 hP1 hD1 hS1 => ?_)
  rw [e1, e2, e3] at hP1 hD1
  exact kk hc hs H1 locs1 ls hP1 hD1 hS1 hl
/-- arraycopy out of a String outside -/
theorem y_copyS {index sa va a n1 dp : Nat} {bs : List Nat} {g : Nat → Int32} {rm : Room} {cB : ClassId} {os : List oSt} (q1 : Nat) (hG : yOK G own cc nL) (hC : yCb G cB os) (hRm : yRoom G rm) (hw : yArr own index) (ho : (sa, va, bs) ∈ os) (ha1 : ws[q1]? = some (a, .inl (cB, n1, .inl g))) (h5 : dp + bs.length ≤ n1) (hb : bs.length < 2 ^ 31 ∧ n1 < 2 ^ 31) (hfit : ∀ b ∈ bs, b < 128) (hfr : 1 ≤ rm.frames) (hlo : (st.map fun v => v.category).sum + 40 ≤ rm.locals) (hws : ws.set q1 (a, .inl (cB, n1, .inl (va_cpy (fun j => nI (bs.getD j 0)) g 0 dp bs.length))) = ws') (hd : decode cc pc = .ok (.invokestatic index, 3))
    (kk : yW G ws' cells slots lv st (pc + 3)) : yW G ws cells slots lv (.int (nI bs.length) :: .int (nI dp) :: .ref a :: .int 0 :: .ref va :: st) pc := by
  obtain ⟨p, l, e, R, s, m, args, below, meth, c, Q, A, nn, D, cB', os'⟩ := G
  intro hc hs H locs ls hP hD hS hl
  obtain ⟨g1, g2, g3, g4, g5, g6, g7, g8, g9⟩ := hG
  obtain ⟨hC1, hC2⟩ := hC
  subst hC1
  subst hC2
  subst hws
  have r1 := hRm.1
  have r2 := hRm.2.1
  have e2 : (nI dp).toNatClampNeg = dp := nI_clamp (by omega)
  have e3 : (nI bs.length).toNatClampNeg = bs.length := nI_clamp (by omega)
  have e0 : (0 : Int32).toNatClampNeg = 0 := by decide
  obtain ⟨scr, hs1, ⟨hs6, k0, hk0, cm0, hkk0⟩, hs3, hs4, hs4', hs5, -⟩ := ((g8.2.2 _ ho).kept hS.2.1).2.2.2
  have hs4 : bs.length ≤ scr.slots.size := hs4
  have nn2 : ∀ z : Nat, z < 2 ^ 31 → (nI z).toInt = (z : Int) := fun z hz => nI_toInt hz
  intro T hT X
  have hc1 : H[a]? = some (vp_cell cB' (n1, .inl g)) := hP q1 _ ha1
  obtain ⟨-, k1, hk1, cm1, hkk1⟩ := (g6.2 0 _ rfl).1 n1 (fun j => .int (g j))
  have el : ∀ i, i < bs.length → scr.slots.getD i .null = .int (nI (bs.getD i 0)) := fun i hi => by
    rw [Array.getD_eq_getD_getElem?, hs5 _ hi]
    rfl
  obtain ⟨vm', X', step⟩ := X.arraycopy g1 g3 (g7.at hw.1 _) (g7.at hw.2.1 _) (g7.at hw.2.2.1 _) (g7.at hw.2.2.2 _) (src := va) (dst := a) (cs := scr) (cd := vp_cell cB' (n1, .inl g)) (srcPos := 0) (destPos := nI dp) (n := nI bs.length) (by rw [hT]; exact hs1) (by rw [hT]; exact hc1)
    hs6 (fun _ h => by cases h) hs3 (fun h => by cases h) hk0 hk1 hkk0 hkk1 (by simp [refKind]) (by decide) (nI_pos (by omega)) (nI_pos (by omega))
    (by
      rw [nn2 _ hb.1, Int32.toInt_zero]
      omega)
    (by
      rw [nn2 _ hb.1, nn2 _ (by omega)]
      show ¬ _ > ((arrV cB' n1 (fun j => .int (g j))).slots.size : Int)
      rw [arrV_size]
      omega)
    (fun vm₁ _ i hi => by
      rw [e3] at hi
      rw [e0, Nat.zero_add, el i hi]
      refine ⟨?_, trivial⟩
      have hm : bs.getD i 0 < 128 := by
        rw [List.getD_eq_getElem?_getD, List.getElem?_eq_getElem hi]
        exact hfit _ (List.getElem_mem hi)
      have := pk_fb (nI (bs.getD i 0))
      have e9 : (nI (bs.getD i 0)).toInt8.toInt32 = nI (bs.getD i 0) := by
        have h9 := zI_byte (z := (bs.getD i 0 : Nat)) (by omega) (by omega)
        exact h9
      rw [e9] at this
      exact this)
    (g := F0 m pc ls (.int (nI bs.length) :: .int (nI dp) :: .ref a :: .int 0 :: .ref va :: st)) rfl (g4.trans hl.1.symm).symm (rest := st) rfl (by rw [g2]; exact hd) (by omega) (by
      have : nativeFrameWords "java/lang/System" "arraycopy" 5 ≤ 29 := by decide +kernel
      show 2 * 0 + _ + _ ≤ _
      omega)
  have e1 : copied scr (vp_cell cB' (n1, .inl g)) 0 (nI dp) (nI bs.length) = vp_cell cB' (n1, .inl (va_cpy (fun j => nI (bs.getD j 0)) g 0 dp bs.length)) := by
    have h9 := va_copiedX (fun z => Value.int z) scr cB' (sp := 0) (dp := dp) (n := bs.length) (n1 := n1) (n0 := bs.length) (fun j => nI (bs.getD j 0)) g hs5 (by omega)
    have h8 : copied scr (vp_cell cB' (n1, .inl g)) 0 (nI dp) (nI bs.length) = (arrV cB' n1 (fun j => Value.int (g j))).storeRun (nI dp).toNatClampNeg (scr.stretch (0 : Int32).toNatClampNeg (nI bs.length).toNatClampNeg) := rfl
    rw [h8, e2, e3, e0]
    exact h9
  rw [e1] at X' step
  have hl2 : a < H.size := (Array.getElem?_eq_some_iff.mp hc1).1
  have hheap : ((T.setVm vm').setCell a (vp_cell cB' (n1, .inl (va_cpy (fun j => nI (bs.getD j 0)) g 0 dp bs.length)))).heap = H.setIfInBounds a (vp_cell cB' (n1, .inl (va_cpy (fun j => nI (bs.getD j 0)) g 0 dp bs.length))) := by rw [← hT]; rfl
  have oq : ∀ q : Nat, q ≠ a → (H.setIfInBounds a (vp_cell cB' (n1, .inl (va_cpy (fun j => nI (bs.getD j 0)) g 0 dp bs.length))))[q]? = H[q]? := fun q hq => by simp [Array.getElem?_setIfInBounds, Ne.symm hq]
  obtain ⟨t, a1, b1⟩ := kk hc hs _ _ ls (hP.set hD ha1 (show (H.setIfInBounds a _)[a]? = some _ by simp [Array.getElem?_setIfInBounds, hl2]) oq) (hD.set ha1) ⟨by simp; exact hS.1, fun q z1 z2 => by
      rw [oq q (fun e => z2 (by rw [e]; exact hD.2 q1 _ ha1))]
      exact hS.2.1 q z1 z2, fun q hq => by
      rcases List.mem_append.mp hq with h | h
      · exact hS.2.2 q h
      · obtain ⟨z, -, hz⟩ := List.mem_map.mp h
        rw [← hz]
        exact hD.2 q1 _ ha1⟩ hl _ hheap X'
  exact ⟨t, step t a1, b1⟩
end YR
