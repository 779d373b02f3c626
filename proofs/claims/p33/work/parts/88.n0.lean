/-! the frame over any invariant: written by wip/p33/nn.py -/
abbrev nCx : Type := Program × Launch × Env × Room × State × MethodId × Array Value × List Frame × Method × Code × (State → Prop) × Nat
def nW (G : nCx) (J : Heap → List Loc → Prop) (cells slots : Nat) (lv : zLv) (st : List Value) (pc : Nat) : Prop := match G with
  | (p, l, e, R, s, m, args, below, meth, c, Q, n) => cells ≤ R.cells → slots ≤ R.slots → ∀ (H : Heap) (locs : List Loc) (ls : Array Slot), J H locs → lv_has ls n lv → W p l e R s m args below meth c H locs cells slots Q (F0 m pc ls st)
def nOK (G : nCx) (own : String) (cc : ByteArray) (nL : Nat) : Prop := match G with
  | (p, l, e, R, s, m, args, below, meth, c, Q, n) => p.tables.exec = Jvm.exec ∧ c.code = cc ∧ s.vm.findClass own = some m.cls ∧ c.maxLocals = n ∧ n = nL ∧ zTb s
def nRoom (G : nCx) (rm : Room) : Prop := match G with
  | (p, l, e, R, s, m, args, below, meth, c, Q, n) => rm.frames ≤ R.frames ∧ rm.locals ≤ R.locals ∧ rm.cells ≤ R.cells ∧ rm.slots ≤ R.slots
/-- the state at the method's entry -/
def nS (G : nCx) : State := G.2.2.2.2.1
section NR
variable {G : nCx} {J : Heap → List Loc → Prop} {cells slots : Nat} {lv lv' : zLv} {st : List Value} {pc : Nat} {own : String} {cc : ByteArray} {nL : Nat}
theorem n_iconst {n : Int} (v : Int32) (hG : nOK G own cc nL) (hd : decode cc pc = .ok (.iconst n, 1)) (hv : Int32.ofInt n = v) (k : nW G J cells slots lv (.int v :: st) (pc + 1)) : nW G J cells slots lv st pc := by
  obtain ⟨p, l, e, R, s, m, args, below, meth, c, Q, nn⟩ := G
  intro hc hs H locs ls hJ hl
  exact lv_iconst hG.1 hG.2.1 hd hv (k hc hs H locs ls hJ hl)
theorem n_bipush {n : Int} (v : Int32) (hG : nOK G own cc nL) (hd : decode cc pc = .ok (.bipush n, 2)) (hv : (Int8.ofInt n).toInt32 = v) (k : nW G J cells slots lv (.int v :: st) (pc + 2)) : nW G J cells slots lv st pc := by
  obtain ⟨p, l, e, R, s, m, args, below, meth, c, Q, nn⟩ := G
  intro hc hs H locs ls hJ hl
  exact lv_bipush hG.1 hG.2.1 hd hv (k hc hs H locs ls hJ hl)
theorem n_sipush {n : Int} (v : Int32) (hG : nOK G own cc nL) (hd : decode cc pc = .ok (.sipush n, 3)) (hv : (Int16.ofInt n).toInt32 = v) (k : nW G J cells slots lv (.int v :: st) (pc + 3)) : nW G J cells slots lv st pc := by
  obtain ⟨p, l, e, R, s, m, args, below, meth, c, Q, nn⟩ := G
  intro hc hs H locs ls hJ hl
  exact lv_sipush hG.1 hG.2.1 hd hv (k hc hs H locs ls hJ hl)
theorem n_iload_n {i : Nat} {f : Fin 4} {x : Int32} (j : Nat) (hG : nOK G own cc nL) (hd : decode cc pc = .ok (.iload_n f, 1)) (hi : (f : Nat) = i) (hk : lv[j]? = some (i, .int x)) (k : nW G J cells slots lv (.int x :: st) (pc + 1)) : nW G J cells slots lv st pc := by
  obtain ⟨p, l, e, R, s, m, args, below, meth, c, Q, nn⟩ := G
  intro hc hs H locs ls hJ hl
  exact lv_iload_n hG.1 hG.2.1 hd hi (lv_at hl j hk) (k hc hs H locs ls hJ hl)
theorem n_iload {i : Nat} {x : Int32} (j : Nat) (hG : nOK G own cc nL) (hd : decode cc pc = .ok (.iload i, 2)) (hk : lv[j]? = some (i, .int x)) (k : nW G J cells slots lv (.int x :: st) (pc + 2)) : nW G J cells slots lv st pc := by
  obtain ⟨p, l, e, R, s, m, args, below, meth, c, Q, nn⟩ := G
  intro hc hs H locs ls hJ hl
  exact lv_iload hG.1 hG.2.1 hd (lv_at hl j hk) (k hc hs H locs ls hJ hl)
theorem n_aload_n {i x : Nat} {f : Fin 4} (j : Nat) (hG : nOK G own cc nL) (hd : decode cc pc = .ok (.aload_n f, 1)) (hi : (f : Nat) = i) (hk : lv[j]? = some (i, .ref x)) (k : nW G J cells slots lv (.ref x :: st) (pc + 1)) : nW G J cells slots lv st pc := by
  obtain ⟨p, l, e, R, s, m, args, below, meth, c, Q, nn⟩ := G
  intro hc hs H locs ls hJ hl
  exact lv_aload_n hG.1 hG.2.1 hd hi (lv_at hl j hk) (k hc hs H locs ls hJ hl)
theorem n_aload {i x : Nat} (j : Nat) (hG : nOK G own cc nL) (hd : decode cc pc = .ok (.aload i, 2)) (hk : lv[j]? = some (i, .ref x)) (k : nW G J cells slots lv (.ref x :: st) (pc + 2)) : nW G J cells slots lv st pc := by
  obtain ⟨p, l, e, R, s, m, args, below, meth, c, Q, nn⟩ := G
  intro hc hs H locs ls hJ hl
  exact lv_aload hG.1 hG.2.1 hd (lv_at hl j hk) (k hc hs H locs ls hJ hl)
theorem n_istore_n {i : Nat} {f : Fin 4} {x : Int32} (hG : nOK G own cc nL) (hd : decode cc pc = .ok (.istore_n f, 1)) (hi : (f : Nat) = i) (hn : i < nL) (hl' : (i, Value.int x) :: lv.filter (fun q => !(q.1 == i) && !(q.1 + 1 == i && q.2.category == 2)) = lv') (k : nW G J cells slots lv' st (pc + 1)) : nW G J cells slots lv (.int x :: st) pc := by
  obtain ⟨p, l, e, R, s, m, args, below, meth, c, Q, nn⟩ := G
  intro hc hs H locs ls hJ hl
  have hn2 : i < nn := by have := hG.2.2.2.2.1; omega
  exact lv_istore_n hG.1 hG.2.1 hd hi hl hn2 hl' (fun ls2 hl2 => k hc hs H locs ls2 hJ hl2)
theorem n_istore {i : Nat} {x : Int32} (hG : nOK G own cc nL) (hd : decode cc pc = .ok (.istore i, 2)) (hn : i < nL) (hl' : (i, Value.int x) :: lv.filter (fun q => !(q.1 == i) && !(q.1 + 1 == i && q.2.category == 2)) = lv') (k : nW G J cells slots lv' st (pc + 2)) : nW G J cells slots lv (.int x :: st) pc := by
  obtain ⟨p, l, e, R, s, m, args, below, meth, c, Q, nn⟩ := G
  intro hc hs H locs ls hJ hl
  have hn2 : i < nn := by have := hG.2.2.2.2.1; omega
  exact lv_istore hG.1 hG.2.1 hd hl hn2 hl' (fun ls2 hl2 => k hc hs H locs ls2 hJ hl2)
theorem n_astore_n {i : Nat} {f : Fin 4} {x : Nat} (hG : nOK G own cc nL) (hd : decode cc pc = .ok (.astore_n f, 1)) (hi : (f : Nat) = i) (hn : i < nL) (hl' : (i, Value.ref x) :: lv.filter (fun q => !(q.1 == i) && !(q.1 + 1 == i && q.2.category == 2)) = lv') (k : nW G J cells slots lv' st (pc + 1)) : nW G J cells slots lv (.ref x :: st) pc := by
  obtain ⟨p, l, e, R, s, m, args, below, meth, c, Q, nn⟩ := G
  intro hc hs H locs ls hJ hl
  have hn2 : i < nn := by have := hG.2.2.2.2.1; omega
  exact lv_astore_n hG.1 hG.2.1 hd hi hl hn2 hl' (fun ls2 hl2 => k hc hs H locs ls2 hJ hl2)
theorem n_astore {i : Nat} {x : Nat} (hG : nOK G own cc nL) (hd : decode cc pc = .ok (.astore i, 2)) (hn : i < nL) (hl' : (i, Value.ref x) :: lv.filter (fun q => !(q.1 == i) && !(q.1 + 1 == i && q.2.category == 2)) = lv') (k : nW G J cells slots lv' st (pc + 2)) : nW G J cells slots lv (.ref x :: st) pc := by
  obtain ⟨p, l, e, R, s, m, args, below, meth, c, Q, nn⟩ := G
  intro hc hs H locs ls hJ hl
  have hn2 : i < nn := by have := hG.2.2.2.2.1; omega
  exact lv_astore hG.1 hG.2.1 hd hl hn2 hl' (fun ls2 hl2 => k hc hs H locs ls2 hJ hl2)
theorem n_iadd {x y z : Int32} (hG : nOK G own cc nL) (hd : decode cc pc = .ok (.iadd, 1)) (hz : x + y = z) (k : nW G J cells slots lv (.int z :: st) (pc + 1)) : nW G J cells slots lv (.int y :: .int x :: st) pc := by
  obtain ⟨p, l, e, R, s, m, args, below, meth, c, Q, nn⟩ := G
  intro hc hs H locs ls hJ hl
  subst hz
  exact lv_iadd hG.1 hG.2.1 hd (k hc hs H locs ls hJ hl)
theorem n_isub {x y z : Int32} (hG : nOK G own cc nL) (hd : decode cc pc = .ok (.isub, 1)) (hz : x - y = z) (k : nW G J cells slots lv (.int z :: st) (pc + 1)) : nW G J cells slots lv (.int y :: .int x :: st) pc := by
  obtain ⟨p, l, e, R, s, m, args, below, meth, c, Q, nn⟩ := G
  intro hc hs H locs ls hJ hl
  subst hz
  exact lv_isub hG.1 hG.2.1 hd (k hc hs H locs ls hJ hl)
theorem n_ishl {x y z : Int32} (hG : nOK G own cc nL) (hd : decode cc pc = .ok (.ishl, 1)) (hz : x <<< (y &&& 31) = z) (k : nW G J cells slots lv (.int z :: st) (pc + 1)) : nW G J cells slots lv (.int y :: .int x :: st) pc := by
  obtain ⟨p, l, e, R, s, m, args, below, meth, c, Q, nn⟩ := G
  intro hc hs H locs ls hJ hl
  subst hz
  exact lv_ishl hG.1 hG.2.1 hd (k hc hs H locs ls hJ hl)
theorem n_ishr {x y z : Int32} (hG : nOK G own cc nL) (hd : decode cc pc = .ok (.ishr, 1)) (hz : x >>> (y &&& 31) = z) (k : nW G J cells slots lv (.int z :: st) (pc + 1)) : nW G J cells slots lv (.int y :: .int x :: st) pc := by
  obtain ⟨p, l, e, R, s, m, args, below, meth, c, Q, nn⟩ := G
  intro hc hs H locs ls hJ hl
  subst hz
  exact lv_ishr hG.1 hG.2.1 hd (k hc hs H locs ls hJ hl)
theorem n_iand {x y z : Int32} (hG : nOK G own cc nL) (hd : decode cc pc = .ok (.iand, 1)) (hz : x &&& y = z) (k : nW G J cells slots lv (.int z :: st) (pc + 1)) : nW G J cells slots lv (.int y :: .int x :: st) pc := by
  obtain ⟨p, l, e, R, s, m, args, below, meth, c, Q, nn⟩ := G
  intro hc hs H locs ls hJ hl
  subst hz
  exact lv_iand hG.1 hG.2.1 hd (k hc hs H locs ls hJ hl)
theorem n_i2c {x z : Int32} (hG : nOK G own cc nL) (hd : decode cc pc = .ok (.i2c, 1)) (hz : (x.toUInt32 % 65536).toInt32 = z) (k : nW G J cells slots lv (.int z :: st) (pc + 1)) : nW G J cells slots lv (.int x :: st) pc := by
  obtain ⟨p, l, e, R, s, m, args, below, meth, c, Q, nn⟩ := G
  intro hc hs H locs ls hJ hl
  exact lv_i2c hG.1 hG.2.1 hd hz (k hc hs H locs ls hJ hl)
theorem n_dup {v : Value} (hG : nOK G own cc nL) (hd : decode cc pc = .ok (.dup, 1)) (hv : v.category = 1) (k : nW G J cells slots lv (v :: v :: st) (pc + 1)) : nW G J cells slots lv (v :: st) pc := by
  obtain ⟨p, l, e, R, s, m, args, below, meth, c, Q, nn⟩ := G
  intro hc hs H locs ls hJ hl
  exact lv_dup hG.1 hG.2.1 hd hv (k hc hs H locs ls hJ hl)
theorem n_pop {v : Value} (hG : nOK G own cc nL) (hd : decode cc pc = .ok (.pop, 1)) (hv : v.category = 1) (k : nW G J cells slots lv st (pc + 1)) : nW G J cells slots lv (v :: st) pc := by
  obtain ⟨p, l, e, R, s, m, args, below, meth, c, Q, nn⟩ := G
  intro hc hs H locs ls hJ hl
  exact lv_pop hG.1 hG.2.1 hd hv (k hc hs H locs ls hJ hl)
theorem n_null (hG : nOK G own cc nL) (hd : decode cc pc = .ok (.aconst_null, 1)) (k : nW G J cells slots lv (.null :: st) (pc + 1)) : nW G J cells slots lv st pc := by
  obtain ⟨p, l, e, R, s, m, args, below, meth, c, Q, nn⟩ := G
  intro hc hs H locs ls hJ hl
  exact lv_null hG.1 hG.2.1 hd (k hc hs H locs ls hJ hl)
theorem n_goto {off : Int} {tgt : Nat} (hG : nOK G own cc nL) (hd : decode cc pc = .ok (.goto off, 3)) (ht : (pc : Int) + off = (tgt : Int)) (k : nW G J cells slots lv st tgt) : nW G J cells slots lv st pc := by
  obtain ⟨p, l, e, R, s, m, args, below, meth, c, Q, nn⟩ := G
  intro hc hs H locs ls hJ hl
  exact lv_goto hG.1 hG.2.1 hd ht (k hc hs H locs ls hJ hl)
theorem n_nonnull {x : Nat} {off : Int} {tgt : Nat} (hG : nOK G own cc nL) (hd : decode cc pc = .ok (.ifnonnull off, 3)) (ht : (pc : Int) + off = (tgt : Int)) (k : nW G J cells slots lv st tgt) : nW G J cells slots lv (.ref x :: st) pc := by
  obtain ⟨p, l, e, R, s, m, args, below, meth, c, Q, nn⟩ := G
  intro hc hs H locs ls hJ hl
  exact lv_ifnonnull hG.1 hG.2.1 hd ht (k hc hs H locs ls hJ hl)
theorem n_if_eq {x : Int32} {off : Int} {tgt : Nat} (hG : nOK G own cc nL) (hd : decode cc pc = .ok (.ifCond .eq off, 3)) (ht : (pc : Int) + off = (tgt : Int)) (kt : x = 0 → nW G J cells slots lv st tgt) (kf : ¬ x = 0 → nW G J cells slots lv st (pc + 3)) : nW G J cells slots lv (.int x :: st) pc := by
  obtain ⟨p, l, e, R, s, m, args, below, meth, c, Q, nn⟩ := G
  intro hc hs H locs ls hJ hl
  exact lv_if_eq hG.1 hG.2.1 hd ht (fun h => kt h hc hs H locs ls hJ hl) (fun h => kf h hc hs H locs ls hJ hl)
theorem n_if_ne {x : Int32} {off : Int} {tgt : Nat} (hG : nOK G own cc nL) (hd : decode cc pc = .ok (.ifCond .ne off, 3)) (ht : (pc : Int) + off = (tgt : Int)) (kt : ¬ x = 0 → nW G J cells slots lv st tgt) (kf : x = 0 → nW G J cells slots lv st (pc + 3)) : nW G J cells slots lv (.int x :: st) pc := by
  obtain ⟨p, l, e, R, s, m, args, below, meth, c, Q, nn⟩ := G
  intro hc hs H locs ls hJ hl
  exact lv_if_ne hG.1 hG.2.1 hd ht (fun h => kt h hc hs H locs ls hJ hl) (fun h => kf h hc hs H locs ls hJ hl)
theorem n_if_le {x : Int32} {off : Int} {tgt : Nat} (hG : nOK G own cc nL) (hd : decode cc pc = .ok (.ifCond .le off, 3)) (ht : (pc : Int) + off = (tgt : Int)) (kt : x ≤ 0 → nW G J cells slots lv st tgt) (kf : ¬ x ≤ 0 → nW G J cells slots lv st (pc + 3)) : nW G J cells slots lv (.int x :: st) pc := by
  obtain ⟨p, l, e, R, s, m, args, below, meth, c, Q, nn⟩ := G
  intro hc hs H locs ls hJ hl
  exact lv_if_le hG.1 hG.2.1 hd ht (fun h => kt h hc hs H locs ls hJ hl) (fun h => kf h hc hs H locs ls hJ hl)
theorem n_if_lt {x : Int32} {off : Int} {tgt : Nat} (hG : nOK G own cc nL) (hd : decode cc pc = .ok (.ifCond .lt off, 3)) (ht : (pc : Int) + off = (tgt : Int)) (kt : x < 0 → nW G J cells slots lv st tgt) (kf : ¬ x < 0 → nW G J cells slots lv st (pc + 3)) : nW G J cells slots lv (.int x :: st) pc := by
  obtain ⟨p, l, e, R, s, m, args, below, meth, c, Q, nn⟩ := G
  intro hc hs H locs ls hJ hl
  exact lv_if_lt hG.1 hG.2.1 hd ht (fun h => kt h hc hs H locs ls hJ hl) (fun h => kf h hc hs H locs ls hJ hl)
theorem n_icmp_eq {x y : Int32} {off : Int} {tgt : Nat} (hG : nOK G own cc nL) (hd : decode cc pc = .ok (.if_icmp .eq off, 3)) (ht : (pc : Int) + off = (tgt : Int)) (kt : x = y → nW G J cells slots lv st tgt) (kf : ¬ x = y → nW G J cells slots lv st (pc + 3)) : nW G J cells slots lv (.int y :: .int x :: st) pc := by
  obtain ⟨p, l, e, R, s, m, args, below, meth, c, Q, nn⟩ := G
  intro hc hs H locs ls hJ hl
  exact lv_icmp_eq hG.1 hG.2.1 hd ht (fun h => kt h hc hs H locs ls hJ hl) (fun h => kf h hc hs H locs ls hJ hl)
theorem n_icmp_ne {x y : Int32} {off : Int} {tgt : Nat} (hG : nOK G own cc nL) (hd : decode cc pc = .ok (.if_icmp .ne off, 3)) (ht : (pc : Int) + off = (tgt : Int)) (kt : ¬ x = y → nW G J cells slots lv st tgt) (kf : x = y → nW G J cells slots lv st (pc + 3)) : nW G J cells slots lv (.int y :: .int x :: st) pc := by
  obtain ⟨p, l, e, R, s, m, args, below, meth, c, Q, nn⟩ := G
  intro hc hs H locs ls hJ hl
  exact lv_icmp_ne hG.1 hG.2.1 hd ht (fun h => kt h hc hs H locs ls hJ hl) (fun h => kf h hc hs H locs ls hJ hl)
theorem n_icmp_ge {x y : Int32} {off : Int} {tgt : Nat} (hG : nOK G own cc nL) (hd : decode cc pc = .ok (.if_icmp .ge off, 3)) (ht : (pc : Int) + off = (tgt : Int)) (kt : y ≤ x → nW G J cells slots lv st tgt) (kf : ¬ y ≤ x → nW G J cells slots lv st (pc + 3)) : nW G J cells slots lv (.int y :: .int x :: st) pc := by
  obtain ⟨p, l, e, R, s, m, args, below, meth, c, Q, nn⟩ := G
  intro hc hs H locs ls hJ hl
  exact lv_icmp_ge hG.1 hG.2.1 hd ht (fun h => kt h hc hs H locs ls hJ hl) (fun h => kf h hc hs H locs ls hJ hl)
theorem n_icmp_gt {x y : Int32} {off : Int} {tgt : Nat} (hG : nOK G own cc nL) (hd : decode cc pc = .ok (.if_icmp .gt off, 3)) (ht : (pc : Int) + off = (tgt : Int)) (kt : y < x → nW G J cells slots lv st tgt) (kf : ¬ y < x → nW G J cells slots lv st (pc + 3)) : nW G J cells slots lv (.int y :: .int x :: st) pc := by
  obtain ⟨p, l, e, R, s, m, args, below, meth, c, Q, nn⟩ := G
  intro hc hs H locs ls hJ hl
  exact lv_icmp_gt hG.1 hG.2.1 hd ht (fun h => kt h hc hs H locs ls hJ hl) (fun h => kf h hc hs H locs ls hJ hl)
theorem n_icmp_lt {x y : Int32} {off : Int} {tgt : Nat} (hG : nOK G own cc nL) (hd : decode cc pc = .ok (.if_icmp .lt off, 3)) (ht : (pc : Int) + off = (tgt : Int)) (kt : x < y → nW G J cells slots lv st tgt) (kf : ¬ x < y → nW G J cells slots lv st (pc + 3)) : nW G J cells slots lv (.int y :: .int x :: st) pc := by
  obtain ⟨p, l, e, R, s, m, args, below, meth, c, Q, nn⟩ := G
  intro hc hs H locs ls hJ hl
  exact lv_icmp_lt hG.1 hG.2.1 hd ht (fun h => kt h hc hs H locs ls hJ hl) (fun h => kf h hc hs H locs ls hJ hl)
theorem n_ldc {index : Nat} {v : Int32} (hG : nOK G own cc nL) (hl : zWd (.constant own index v)) (hd : decode cc pc = .ok (.ldc index, 2)) (k : nW G J cells slots lv (.int v :: st) (pc + 2)) : nW G J cells slots lv st pc := by
  obtain ⟨p, l, e, R, s, m, args, below, meth, c, Q, nn⟩ := G
  intro hc hs H locs ls hJ hl2
  exact lv_ldc hG.1 hG.2.1 hG.2.2.1 (hG.2.2.2.2.2.at hl _) hd (k hc hs H locs ls hJ hl2)
theorem n_imul {x y z : Int32} (hG : nOK G own cc nL) (hd : decode cc pc = .ok (.imul, 1)) (hz : x * y = z) (k : nW G J cells slots lv (.int z :: st) (pc + 1)) : nW G J cells slots lv (.int y :: .int x :: st) pc := by
  obtain ⟨p, l, e, R, s, m, args, below, meth, c, Q, nn⟩ := G
  intro hc hs H locs ls hJ hl
  subst hz
  exact lv_imul hG.1 hG.2.1 hd (k hc hs H locs ls hJ hl)
theorem n_ior {x y z : Int32} (hG : nOK G own cc nL) (hd : decode cc pc = .ok (.ior, 1)) (hz : x ||| y = z) (k : nW G J cells slots lv (.int z :: st) (pc + 1)) : nW G J cells slots lv (.int y :: .int x :: st) pc := by
  obtain ⟨p, l, e, R, s, m, args, below, meth, c, Q, nn⟩ := G
  intro hc hs H locs ls hJ hl
  subst hz
  exact lv_ior hG.1 hG.2.1 hd (k hc hs H locs ls hJ hl)
theorem n_ixor {x y z : Int32} (hG : nOK G own cc nL) (hd : decode cc pc = .ok (.ixor, 1)) (hz : x ^^^ y = z) (k : nW G J cells slots lv (.int z :: st) (pc + 1)) : nW G J cells slots lv (.int y :: .int x :: st) pc := by
  obtain ⟨p, l, e, R, s, m, args, below, meth, c, Q, nn⟩ := G
  intro hc hs H locs ls hJ hl
  subst hz
  exact lv_ixor hG.1 hG.2.1 hd (k hc hs H locs ls hJ hl)
theorem n_idiv {x y z : Int32} (hG : nOK G own cc nL) (hd : decode cc pc = .ok (.idiv, 1)) (hne : ¬ y = 0) (hz : x / y = z) (k : nW G J cells slots lv (.int z :: st) (pc + 1)) : nW G J cells slots lv (.int y :: .int x :: st) pc := by
  obtain ⟨p, l, e, R, s, m, args, below, meth, c, Q, nn⟩ := G
  intro hc hs H locs ls hJ hl
  subst hz
  exact lv_idiv hG.1 hG.2.1 hd hne (k hc hs H locs ls hJ hl)
theorem n_irem {x y z : Int32} (hG : nOK G own cc nL) (hd : decode cc pc = .ok (.irem, 1)) (hne : ¬ y = 0) (hz : x - x / y * y = z) (k : nW G J cells slots lv (.int z :: st) (pc + 1)) : nW G J cells slots lv (.int y :: .int x :: st) pc := by
  obtain ⟨p, l, e, R, s, m, args, below, meth, c, Q, nn⟩ := G
  intro hc hs H locs ls hJ hl
  subst hz
  exact lv_irem hG.1 hG.2.1 hd hne (k hc hs H locs ls hJ hl)
theorem n_lor {x y z : Int64} (hG : nOK G own cc nL) (hd : decode cc pc = .ok (.lor, 1)) (hz : x ||| y = z) (k : nW G J cells slots lv (.long z :: st) (pc + 1)) : nW G J cells slots lv (.long y :: .long x :: st) pc := by
  obtain ⟨p, l, e, R, s, m, args, below, meth, c, Q, nn⟩ := G
  intro hc hs H locs ls hJ hl
  subst hz
  exact lv_lor hG.1 hG.2.1 hd (k hc hs H locs ls hJ hl)
theorem n_lshl {x z : Int64} {y : Int32} (hG : nOK G own cc nL) (hd : decode cc pc = .ok (.lshl, 1)) (hz : x <<< (y.toInt64 &&& 63) = z) (k : nW G J cells slots lv (.long z :: st) (pc + 1)) : nW G J cells slots lv (.int y :: .long x :: st) pc := by
  obtain ⟨p, l, e, R, s, m, args, below, meth, c, Q, nn⟩ := G
  intro hc hs H locs ls hJ hl
  exact lv_lshl hG.1 hG.2.1 hd hz (k hc hs H locs ls hJ hl)
theorem n_i2l {x : Int32} {z : Int64} (hG : nOK G own cc nL) (hd : decode cc pc = .ok (.i2l, 1)) (hz : x.toInt64 = z) (k : nW G J cells slots lv (.long z :: st) (pc + 1)) : nW G J cells slots lv (.int x :: st) pc := by
  obtain ⟨p, l, e, R, s, m, args, below, meth, c, Q, nn⟩ := G
  intro hc hs H locs ls hJ hl
  exact lv_i2l hG.1 hG.2.1 hd hz (k hc hs H locs ls hJ hl)
theorem n_lconst {f : Fin 2} (z : Int64) (hG : nOK G own cc nL) (hd : decode cc pc = .ok (.lconst f, 1)) (hz : Int64.ofNat (f : Nat) = z) (k : nW G J cells slots lv (.long z :: st) (pc + 1)) : nW G J cells slots lv st pc := by
  obtain ⟨p, l, e, R, s, m, args, below, meth, c, Q, nn⟩ := G
  intro hc hs H locs ls hJ hl
  exact lv_lconst hG.1 hG.2.1 hd hz (k hc hs H locs ls hJ hl)
theorem n_lload {i : Nat} {x : Int64} (j : Nat) (hG : nOK G own cc nL) (hd : decode cc pc = .ok (.lload i, 2)) (hk : lv[j]? = some (i, .long x)) (k : nW G J cells slots lv (.long x :: st) (pc + 2)) : nW G J cells slots lv st pc := by
  obtain ⟨p, l, e, R, s, m, args, below, meth, c, Q, nn⟩ := G
  intro hc hs H locs ls hJ hl
  exact lv_lload hG.1 hG.2.1 hd (lv_at hl j hk) (k hc hs H locs ls hJ hl)
theorem n_lstore {i : Nat} {x : Int64} (hG : nOK G own cc nL) (hd : decode cc pc = .ok (.lstore i, 2)) (hn : i + 1 < nL) (hl' : (i, Value.long x) :: lv.filter (fun q => !(q.1 == i) && (!(q.1 == i + 1) && !(q.1 + 1 == i && q.2.category == 2))) = lv') (k : nW G J cells slots lv' st (pc + 2)) : nW G J cells slots lv (.long x :: st) pc := by
  obtain ⟨p, l, e, R, s, m, args, below, meth, c, Q, nn⟩ := G
  intro hc hs H locs ls hJ hl
  have hn2 : i + 1 < nn := by have := hG.2.2.2.2.1; omega
  exact lv_lstore hG.1 hG.2.1 hd hl hn2 hl' (fun ls2 hl2 => k hc hs H locs ls2 hJ hl2)
theorem n_iinc {i : Nat} {n : Int} {x v : Int32} (j : Nat) (hG : nOK G own cc nL) (hd : decode cc pc = .ok (.iinc i n, 3)) (hk : lv[j]? = some (i, .int x)) (hv : x + Int32.ofInt n = v) (hn : i < nL) (hl' : (i, Value.int v) :: lv.filter (fun q => !(q.1 == i) && !(q.1 + 1 == i && q.2.category == 2)) = lv') (k : nW G J cells slots lv' st (pc + 3)) : nW G J cells slots lv st pc := by
  obtain ⟨p, l, e, R, s, m, args, below, meth, c, Q, nn⟩ := G
  intro hc hs H locs ls hJ hl
  have hn2 : i < nn := by have := hG.2.2.2.2.1; omega
  exact lv_iinc hG.1 hG.2.1 hd hl hk hv hn2 hl' (fun ls2 hl2 => k hc hs H locs ls2 hJ hl2)
theorem n_if_ge {x : Int32} {off : Int} {tgt : Nat} (hG : nOK G own cc nL) (hd : decode cc pc = .ok (.ifCond .ge off, 3)) (ht : (pc : Int) + off = (tgt : Int)) (kt : 0 ≤ x → nW G J cells slots lv st tgt) (kf : ¬ 0 ≤ x → nW G J cells slots lv st (pc + 3)) : nW G J cells slots lv (.int x :: st) pc := by
  obtain ⟨p, l, e, R, s, m, args, below, meth, c, Q, nn⟩ := G
  intro hc hs H locs ls hJ hl
  exact lv_if_ge hG.1 hG.2.1 hd ht (fun h => kt h hc hs H locs ls hJ hl) (fun h => kf h hc hs H locs ls hJ hl)
theorem n_icmp_le {x y : Int32} {off : Int} {tgt : Nat} (hG : nOK G own cc nL) (hd : decode cc pc = .ok (.if_icmp .le off, 3)) (ht : (pc : Int) + off = (tgt : Int)) (kt : x ≤ y → nW G J cells slots lv st tgt) (kf : ¬ x ≤ y → nW G J cells slots lv st (pc + 3)) : nW G J cells slots lv (.int y :: .int x :: st) pc := by
  obtain ⟨p, l, e, R, s, m, args, below, meth, c, Q, nn⟩ := G
  intro hc hs H locs ls hJ hl
  exact lv_icmp_le hG.1 hG.2.1 hd ht (fun h => kt h hc hs H locs ls hJ hl) (fun h => kf h hc hs H locs ls hJ hl)
theorem n_perm (ks : List Nat) (h : lv_pick lv ks = lv') (k : nW G J cells slots lv' st pc) : nW G J cells slots lv st pc := by
  obtain ⟨p, l, e, R, s, m, args, below, meth, c, Q, nn⟩ := G
  intro hc hs H locs ls hJ hl
  exact k hc hs H locs ls hJ (lv_sub hl ks h)
theorem n_conv {J' : Heap → List Loc → Prop} (h : ∀ H locs, J H locs → J' H locs) (k : nW G J' cells slots lv st pc) : nW G J cells slots lv st pc := by
  obtain ⟨p, l, e, R, s, m, args, below, meth, c, Q, nn⟩ := G
  intro hc hs H locs ls hJ hl
  exact k hc hs H locs ls (h _ _ hJ) hl
theorem n_pure {p : Prop} (k : p → nW G J cells slots lv st pc) : nW G (fun H locs => p ∧ J H locs) cells slots lv st pc := by
  obtain ⟨p, l, e, R, s, m, args, below, meth, c, Q, nn⟩ := G
  intro hc hs H locs ls hJ hl
  exact k hJ.1 hc hs H locs ls hJ.2 hl
theorem n_ex {α : Type} {J' : α → Heap → List Loc → Prop} (k : ∀ x, nW G (J' x) cells slots lv st pc) : nW G (fun H locs => ∃ x, J' x H locs) cells slots lv st pc := by
  obtain ⟨p, l, e, R, s, m, args, below, meth, c, Q, nn⟩ := G
  intro hc hs H locs ls hJ hl
  obtain ⟨x, hx⟩ := hJ
  exact k x hc hs H locs ls hx hl
theorem n_widen {k n : Nat} (h1 : cells ≤ k) (h2 : slots ≤ n) {rm : Room} (hR : nRoom G rm) (hk : k ≤ rm.cells) (hn : n ≤ rm.slots) (kk : nW G J k n lv st pc) : nW G J cells slots lv st pc := by
  obtain ⟨p, l, e, R, s, m, args, below, meth, c, Q, nn⟩ := G
  intro hc hs H locs ls hJ hl
  exact W.widen h1 h2 (kk (Nat.le_trans hk hR.2.2.1) (Nat.le_trans hn hR.2.2.2) H locs ls hJ hl)
end NR
