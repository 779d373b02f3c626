/-- the bits of the varying tokens of the slot in the first l lines; of the first s slots -/
def zmv (I : zStore) (slot : Int) : Nat → Int
  | 0 => 0
  | l + 1 => zmv I slot l + if I 121 slot = (-1) ∧ I 122 (12 * (40 * 0 + slot) + l) ≠ (-1) then 1 + zPT (I 120 slot) * I 117 (30 * l + I 122 (12 * (40 * 0 + slot) + l)) else 0
def zmbt (I : zStore) (N : Nat) : Nat → Int
  | 0 => 0
  | s + 1 => ((zmbt I N s + 4 + if I 121 s = (-1) then 0 else 8 * I 117 (I 121 s)) + if zmu (I 122) 0 s N < zbc (I 119 0) then zbc (I 119 0) else 0) + zmv I s N
/-- what allBits asks -/
def zmBt (I : zStore) (N n : Nat) : Prop := (I 110 3 = N ∧ N ≤ 12) ∧ (I 118 0 = n ∧ n ≤ 40) ∧ (0 ≤ I 119 0 ∧ I 119 0 < 4096) ∧ (∀ i : Nat, i < n → (I 121 i ≠ (-1) → 0 ≤ I 121 i ∧ I 121 i < 360) ∧ 0 ≤ I 120 i ∧ I 120 i < 4) ∧ ∀ i : Nat, i < n → ∀ l : Nat, l < N → I 122 (12 * (40 * 0 + (i : Int)) + l) ≠ (-1) → 0 ≤ I 122 (12 * (40 * 0 + (i : Int)) + l) ∧ I 122 (12 * (40 * 0 + (i : Int)) + l) < 30
theorem zPT_4 : ∀ i : Int, 0 ≤ i → i < 4 → (if i = 3 then 7 else if i = 2 then 1 else if i = 1 then 4 else if i = 0 then 5 else 0) = zPT i := by
  intro i h0 h1
  have : i = 0 ∨ i = 1 ∨ i = 2 ∨ i = 3 := by omega
  rcases this with rfl | rfl | rfl | rfl <;> rfl
set_option maxHeartbeats 8000000 in
theorem c_X4_allBits {F : zFr} {I : zStore} {N n : Nat} (hL : zLayM F) (hr : zRg I) (hW : zWf F) (hB : zmBt I N n) : ∀ (l : Launch) (D : va_G) (cs : Nat → ClassId), l.stackTraces = false → zMt l yX4_allBits cX4_allBits 6 (some .int) rm_X4_allBits D cs F I [.ref (F.1 110)] (fun r I' => r = some (.int (zI (zmbt I N n))) ∧ I' = I) := by
  intro l D cs hst
  refine zMt.ofI hst (by decide +kernel) (Nat.le_of_ble_eq_true rfl) fun G hG hR hE => ?_
  obtain ⟨p1, p2, p3, p4, p5⟩ := hB
  refine z_iconst 4 hG dX4_allBits_0 ?_
  refine z_newI (N := 4) hG hR hW kw69 (by decide) (by decide) (by decide) dX4_allBits_1 (fun a => ?_)
  have hx129 := hL.1
  have ee : zW G (zgrow F a (.inr (.inl (0, 4)))) (0 + 1) (0 + 4) (zzr I F.2.1) (lv_args 0 [.ref (F.1 110)]) [.ref a] 3 = zW G (zgrow F a (.inr (.inl (0, 4)))) 1 4 (zzr I F.2.1) [(0, .ref ((zgrow F a (.inr (.inl (0, 4)))).1 110))] [.ref ((zgrow F a (.inr (.inl (0, 4)))).1 F.2.1)] 3 := by
    rw [zgrow_ad (show 110 < F.2.1 by omega), zgrow_adn]
    rfl
  refine cast ee.symm ?_
  have hL2 : zLayM (zgrow F a (.inr (.inl (0, 4)))) := zLayM_grow hL
  have hE2 : zRetI G (zgrow F a (.inr (.inl (0, 4)))) cX4_allBits 1 4 (fun r J => ∃ I0, (∀ k, k < F.2.1 → J k = I0 k) ∧ r = some (.int (zI (zmbt I N n))) ∧ I0 = I) := fun y J lv pc hd hp => by
    obtain ⟨I0, h1, h2⟩ := hp
    exact z_dropJ hW h1 (hE y I0 lv pc hd h2)
  have hln : F.2.1 < (zgrow F a (.inr (.inl (0, 4)))).2.1 := Nat.lt_succ_self _
  have hsn : (zgrow F a (.inr (.inl (0, 4)))).2.2 F.2.1 = .inr (.inl (0, 4)) := zgrow_spn
  have hr0 : zRg (zzr I F.2.1) := zRg_zr hr
  generalize hF2 : zgrow F a (.inr (.inl (0, 4))) = F2 at *
  generalize hx : F.2.1 = x at *
  refine z_dup hG dX4_allBits_3 rfl ?_
  refine z_iconst 0 hG dX4_allBits_4 ?_
  refine z_iconst 5 hG dX4_allBits_5 ?_
  refine z_iast hG hln hsn (by decide) (by decide) dX4_allBits_6 ?_
  refine z_dup hG dX4_allBits_7 rfl ?_
  refine z_iconst 1 hG dX4_allBits_8 ?_
  refine z_iconst 4 hG dX4_allBits_9 ?_
  refine z_iast hG hln hsn (by decide) (by decide) dX4_allBits_10 ?_
  refine z_dup hG dX4_allBits_11 rfl ?_
  refine z_iconst 2 hG dX4_allBits_12 ?_
  refine z_iconst 1 hG dX4_allBits_13 ?_
  refine z_iast hG hln hsn (by decide) (by decide) dX4_allBits_14 ?_
  refine z_dup hG dX4_allBits_15 rfl ?_
  refine z_iconst 3 hG dX4_allBits_16 ?_
  refine z_bipush 7 hG dX4_allBits_17 (by decide) ?_
  refine z_iast hG hln hsn (by decide) (by decide) dX4_allBits_19 ?_
  refine z_astore_n (lv' := [(1, .ref (F2.1 x)), (0, .ref (F2.1 110))]) hG dX4_allBits_20 rfl (by decide) rfl ?_
  refine z_perm (lv' := [(0, .ref (F2.1 110)), (1, .ref (F2.1 x))]) [1, 0] rfl ?_
  obtain ⟨J, hJ⟩ : ∃ J, J = zup (zup (zup (zup (zzr I x) x 0 5) x 1 4) x 2 1) x 3 7 := ⟨_, rfl⟩
  have hoc : ∀ c, c ≠ x → J c = I c := fun c hc => by
    rw [hJ, zup_c hc, zup_c hc, zup_c hc, zup_c hc, zzr_o hc]
  have hpt : ∀ i : Int, 0 ≤ i → i < 4 → J x i = zPT i := fun i h0 h1 => by
    have : i = 0 ∨ i = 1 ∨ i = 2 ∨ i = 3 := by omega
    rw [hJ]
    rcases this with rfl | rfl | rfl | rfl
    · rw [zup_i (by decide), zup_i (by decide), zup_i (by decide), zup_at]; rfl
    · rw [zup_i (by decide), zup_i (by decide), zup_at]; rfl
    · rw [zup_i (by decide), zup_at]; rfl
    · rw [zup_at]; rfl
  have hrJ : zRg J := by
    rw [hJ]
    exact zRg_up (zRg_up (zRg_up (zRg_up hr0 (by decide)) (by decide)) (by decide)) (by decide)
  rw [← hJ]
  clear hJ
  have c3 : J 110 3 = N := by rw [hoc 110 (by omega)]; exact p1.1
  have c118 : J 118 0 = n := by rw [hoc 118 (by omega)]; exact p2.1
  have c119 : J 119 = I 119 := hoc 119 (by omega)
  have c120 : J 120 = I 120 := hoc 120 (by omega)
  have c121 : J 121 = I 121 := hoc 121 (by omega)
  have c122 : J 122 = I 122 := hoc 122 (by omega)
  have c117 : J 117 = I 117 := hoc 117 (by omega)
  refine s_X4_allBits_21 hG hR hE2 hL2 hrJ (by omega) hln hsn ?_
  have outer : ∀ (d i : Nat), i + d = n → zW G F2 1 4 J [(0, .ref (F2.1 110)), (1, .ref (F2.1 x)), (2, .int (zI (zmbt I N i))), (3, .int (zI i))] [] 25 := by
    intro d
    induction d with
    | zero =>
      intro i hi
      have e : i = n := by omega
      subst e
      exact s_X4_allBits_25 hG hR hE2 hL2 hrJ (by omega) hln hsn (by omega) (by omega) (fun _ q => absurd q (by omega)) (fun _ => ⟨I, fun k hk => hoc k (by omega), rfl, rfl⟩) (fun q => absurd q (by omega)) (fun q => absurd q (by omega))
    | succ d ih =>
      intro i hi
      have h := ih (i + 1) (by omega)
      have q4 := p4 i (by omega)
      have q5 := p5 i (by omega)
      have hs : zmbt I N (i + 1) = ((zmbt I N i + 4 + if I 121 i = (-1) then 0 else 8 * I 117 (I 121 i)) + if zmu (I 122) 0 i N < zbc (I 119 0) then zbc (I 119 0) else 0) + zmv I i N := rfl
      rw [hs] at h
      have h89 : ∀ (e l : Nat), l + e = N → ∀ b : Int, zW G F2 1 4 J [(0, .ref (F2.1 110)), (1, .ref (F2.1 x)), (2, .int (zI (b + zmv I i N))), (3, .int (zI ((i : Int) + 1)))] [] 25 → zW G F2 1 4 J [(0, .ref (F2.1 110)), (1, .ref (F2.1 x)), (2, .int (zI (b + zmv I i l))), (3, .int (zI i)), (4, .int (zI l))] [] 89 := by
        intro e
        induction e with
        | zero =>
          intro l hl b hk
          have e9 : l = N := by omega
          subst e9
          refine s_X4_allBits_89 hG hR hE2 hL2 hrJ (by omega) hln hsn (by omega) (by omega) (by omega) (by rw [c120]; exact q4.2) (fun _ q => absurd q (by omega)) (fun _ => hk) (fun q => absurd q (by omega)) (fun q => absurd q (by omega)) (fun q => absurd q (by omega))
        | succ e ih2 =>
          intro l hl b hk
          have h2 := ih2 (l + 1) (by omega) b hk
          simp only [zmv] at h2
          refine s_X4_allBits_89 hG hR hE2 hL2 hrJ (by omega) hln hsn (by omega) (by omega) (by omega) (by rw [c120]; exact q4.2) (fun _ q1 => by rw [c122]; exact q5 l (by omega)) (fun q => absurd q (by omega)) (fun q1 q2 => ?_) (fun q1 q2 q3 => ?_) (fun q1 q2 q3 => ?_)
          · rw [c121] at q2
            have e0 : ∀ k : Nat, zmv I i k = 0 := fun k => by
              induction k with
              | zero => rfl
              | succ k ihk =>
                simp only [zmv]
                rw [ihk, if_neg (fun p => q2 p.1)]
                rfl
            rw [e0] at hk ⊢
            exact hk
          · rw [c121] at q2
            rw [c122] at q3
            rw [if_neg (fun p => p.2 q3), Int.add_zero] at h2
            exact h2
          · rw [c121] at q2
            rw [c122] at q3
            rw [if_pos ⟨q2, q3⟩, ← Int.add_assoc] at h2
            rw [c122, c120, hpt _ q4.2.1 q4.2.2, c117]
            exact h2
      have h86 : ∀ b : Int, b = (zmbt I N i + 4 + if I 121 i = (-1) then 0 else 8 * I 117 (I 121 i)) + (if zmu (I 122) 0 i N < zbc (I 119 0) then zbc (I 119 0) else 0) → zW G F2 1 4 J [(0, .ref (F2.1 110)), (1, .ref (F2.1 x)), (2, .int (zI b)), (3, .int (zI i))] [] 86 := fun b hb => by
        have h9 := h89 N 0 (by omega) b (by rw [hb]; exact h)
        rw [show b + zmv I i 0 = b from Int.add_zero b] at h9
        exact s_X4_allBits_86 hG hR hE2 hL2 hrJ (by omega) hln hsn h9
      have h65 : ∀ b : Int, b = zmbt I N i + 4 + (if I 121 i = (-1) then 0 else 8 * I 117 (I 121 i)) → zW G F2 1 4 J [(0, .ref (F2.1 110)), (1, .ref (F2.1 x)), (2, .int (zI b)), (3, .int (zI i))] [] 65 := fun b hb => by
        refine s_X4_allBits_65 hG hR hE2 hL2 hrJ (by omega) hln hsn (by omega) (by omega) (by rw [c119]; exact p3) (fun q => ?_) (fun q => ?_)
        all_goals rw [c122, c119, show (J 110 3).toNat = N by omega] at q
        · exact h86 b (by rw [if_neg q, hb, Int.add_zero])
        · rw [c119]
          exact h86 _ (by rw [if_pos q, hb])
      refine s_X4_allBits_25 hG hR hE2 hL2 hrJ (by omega) hln hsn (by omega) (by omega) (fun _ _ => by rw [c121]; exact q4.1) (fun q => absurd q (by omega)) (fun _ q => ?_) (fun _ q => ?_)
      all_goals rw [c121] at q
      · exact h65 _ (by rw [if_pos q, Int.add_zero])
      · rw [c121, c117]
        exact h65 _ (by rw [if_neg q])
  exact outer n 0 (by omega)
theorem zmBt_t {I : zStore} {N n : Nat} {v : Int} (h : zmBt I N n) : zmBt (zup I 110 0 v) N n := h
theorem zmv_t {I : zStore} {v slot : Int} : ∀ l : Nat, zmv (zup I 110 0 v) slot l = zmv I slot l
  | 0 => rfl
  | l + 1 => by
    simp only [zmv]
    rw [zmv_t l]
    rfl
theorem zmbt_t {I : zStore} {N : Nat} {v : Int} : ∀ s : Nat, zmbt (zup I 110 0 v) N s = zmbt I N s
  | 0 => rfl
  | s + 1 => by
    simp only [zmbt]
    rw [zmbt_t s, zmv_t]
    rfl
theorem c_X4_bits {F : zFr} {I : zStore} {N n : Nat} (hL : zLayM F) (hr : zRg I) (hW : zWf F) (hB : zmBt I N n) (hb : -2147483648 ≤ zmbt I N n ∧ zmbt I N n < 2147483648) : ∀ (l : Launch) (D : va_G) (cs : Nat → ClassId), l.stackTraces = false → zMt l yX4_bits cX4_bits 1 (some .int) rm_X4_bits D cs F I [.ref (F.1 110)] (fun r I' => r = some (.int (zI (zmbt I N n))) ∧ I' = zup I 110 0 0) := by
  intro l D cs hst
  refine zMt.ofI hst (by decide +kernel) (Nat.le_of_ble_eq_true rfl) fun G hG hR hE => ?_
  have hc := c_X4_allBits hL (zRg_up (k := 110) (i := 0) (v := 0) hr (by decide)) hW (zmBt_t (v := 0) hB)
  rw [zmbt_t] at hc
  exact s_X4_bits_0 (v6 := zmbt I N n) hG hR hE hL hr hc hb ⟨rfl, rfl⟩
/-! doubles -/
section ZDB
variable {G : zCx} {F : zFr} {cells slots : Nat} {I : zStore} {lv lv' : zLv} {st : List Value} {pc : Nat} {own : String} {cc : ByteArray} {nL : Nat}
theorem z_dconst0 (hG : zOK G own cc nL) (hd : decode cc pc = .ok (.dconst 0, 1)) (k : zW G F cells slots I lv (.double FP.dconst0 :: st) (pc + 1)) : zW G F cells slots I lv st pc := by
  obtain ⟨p, l, e, R, s, m, args, below, meth, c, Q, A, n, D, cs⟩ := G
  intro hc hs H locs ls hP hD hS hl
  exact lv_dconst0 hG.1 hG.2.1 hd (k hc hs H locs ls hP hD hS hl)
theorem z_dconst1 (hG : zOK G own cc nL) (hd : decode cc pc = .ok (.dconst 1, 1)) (k : zW G F cells slots I lv (.double FP.dconst1 :: st) (pc + 1)) : zW G F cells slots I lv st pc := by
  obtain ⟨p, l, e, R, s, m, args, below, meth, c, Q, A, n, D, cs⟩ := G
  intro hc hs H locs ls hP hD hS hl
  exact lv_dconst1 hG.1 hG.2.1 hd (k hc hs H locs ls hP hD hS hl)
theorem z_i2d {x : Int32} (hG : zOK G own cc nL) (hd : decode cc pc = .ok (.i2d, 1)) (k : zW G F cells slots I lv (.double (FP.i2d x) :: st) (pc + 1)) : zW G F cells slots I lv (.int x :: st) pc := by
  obtain ⟨p, l, e, R, s, m, args, below, meth, c, Q, A, n, D, cs⟩ := G
  intro hc hs H locs ls hP hD hS hl
  exact lv_i2d hG.1 hG.2.1 hd (k hc hs H locs ls hP hD hS hl)
theorem z_ddiv {x y : UInt64} (hG : zOK G own cc nL) (hn : vf_n64 (FP.ddiv x y)) (hd : decode cc pc = .ok (.ddiv, 1)) (k : zW G F cells slots I lv (.double (FP.ddiv x y) :: st) (pc + 1)) : zW G F cells slots I lv (.double y :: .double x :: st) pc := by
  obtain ⟨p, l, e, R, s, m, args, below, meth, c, Q, A, n, D, cs⟩ := G
  intro hc hs H locs ls hP hD hS hl
  exact lv_ddiv hG.1 hG.2.1 hd hn (k hc hs H locs ls hP hD hS hl)
theorem z_dsub {x y : UInt64} (hG : zOK G own cc nL) (hn : vf_n64 (FP.dsub x y)) (hd : decode cc pc = .ok (.dsub, 1)) (k : zW G F cells slots I lv (.double (FP.dsub x y) :: st) (pc + 1)) : zW G F cells slots I lv (.double y :: .double x :: st) pc := by
  obtain ⟨p, l, e, R, s, m, args, below, meth, c, Q, A, n, D, cs⟩ := G
  intro hc hs H locs ls hP hD hS hl
  exact lv_dsub hG.1 hG.2.1 hd hn (k hc hs H locs ls hP hD hS hl)
end ZDB
def zRetD (G : zCx) (F : zFr) (cc : ByteArray) (mc ms : Nat) (post : Option Value → zStore → Prop) : Prop := ∀ x I lv pc, decode cc pc = .ok (.dreturn, 1) → post (some (.double x)) I → zW G F mc ms I lv [.double x] pc
theorem zMt.ofD {F : zFr} {I : zStore} {cc : ByteArray} {l : Launch} {y : MethodName} {maxL : Nat} {rm : Room} {D : va_G} {cs : Nat → ClassId} {av : List Value} {post : Option Value → zStore → Prop} (hst : l.stackTraces = false) (hy : plainName y.cls = true) (hlen : (lg_sl av).length ≤ maxL)
    (k : ∀ G, zOK G y.cls cc maxL → zRoom G rm → zRetD G F cc rm.cells rm.slots post → zW G F 0 0 I (lv_args 0 av) [] 0) : zMt l y cc maxL (some .double) rm D cs F I av post := by
  intro sz
  refine Met.ofW (cc := cc) (maxL := maxL) (ret := some .double) hy rfl ?_
  intro p e s m args below meth c s₁ B hml hv
  refine zBody hst hlen _ B hml hv (fun G hG hok hrm => k G hok hrm ?_)
  subst hG
  intro x I1 lv1 pc1 hd hp hc hs H locs ls hP hD hS hl
  exact W.dret (v := x) B.exec B.bytes B.returns (fun t ht hW => ⟨⟨_, I1, rfl, hp, by rw [ht]; exact hP⟩, hS.F ht⟩) hS.2.2 hd B.notSynchronized
/-! no NaN comes of it -/
theorem zn_round {s : Bool} {a b : Nat} {e : Int} : FP.Core.roundRatio FP.Core.b64 s a b e ≠ .nan := by
  unfold FP.Core.roundRatio
  split
  · exact fun h => nomatch h
  · unfold FP.Core.roundAt FP.Core.settle FP.Core.bound
    repeat' split
    all_goals exact fun h => nomatch h
theorem zn_64 {r : UInt64} (h : FP.Core.val64 r ≠ .nan) : vf_n64 r := by
  unfold vf_n64
  rw [UInt64.le_iff_toNat_le, UInt64.toNat_and]
  have e1 : (0x7fffffffffffffff : UInt64).toNat = 2 ^ 63 - 1 := rfl
  have e2 : (0x7ff0000000000000 : UInt64).toNat = 2047 * 4503599627370496 := rfl
  rw [e1, e2, Nat.and_two_pow_sub_one_eq_mod]
  unfold FP.Core.val64 FP.Core.decode at h
  have t1 : FP.Core.b64.tails = 4503599627370496 := by decide
  have t2 : FP.Core.b64.exps = 2048 := by decide
  unfold FP.Core.fieldE FP.Core.fieldT at h
  rw [t1, t2] at h
  by_cases hE : r.toNat / 4503599627370496 % 2048 = 2048 - 1
  · rw [if_pos hE] at h
    by_cases hT : r.toNat % 4503599627370496 = 0
    · omega
    · rw [if_neg hT] at h
      exact absurd rfl h
  · omega
def zn_f (d : FP.Core.Datum) : Bool := match d with
  | .fin _ c _ => c != 0
  | _ => false
theorem zn_own : ∀ k : Nat, k < 400 → zn_f (FP.Core.val64 (FP.i2d (zI ((8 * k + 8 : Nat) : Int)))) = true := by decide +kernel
theorem zn_int {b : Int32} : ∃ s c q, FP.Core.val64 (FP.i2d b) = .fin s c q ∨ FP.Core.val64 (FP.i2d b) = .inf s := by
  have h := FP.Core.val64_i2d b
  have h2 : FP.Core.val64 (FP.i2d b) = FP.Core.round FP.Core.b64 (FP.Core.ofInt b.toInt) := h
  rw [h2]
  unfold FP.Core.ofInt FP.Core.round
  have h3 := zn_round (s := decide (b.toInt < 0)) (a := b.toInt.natAbs) (b := 1) (e := 0)
  dsimp only
  generalize FP.Core.roundRatio FP.Core.b64 (decide (b.toInt < 0)) b.toInt.natAbs 1 0 = d at *
  rcases d with _ | s | ⟨s, c, q⟩
  · exact absurd rfl h3
  · exact ⟨s, 0, 0, Or.inr rfl⟩
  · exact ⟨s, c, q, Or.inl rfl⟩
theorem zsv_d {b o : Int} (h : ∃ k : Nat, k < 400 ∧ o = ((8 * k + 8 : Nat) : Int)) : FP.Core.val64 (FP.ddiv (FP.i2d (zI b)) (FP.i2d (zI o))) ≠ .nan := by
  obtain ⟨k, hk, rfl⟩ := h
  have h1 := zn_own k hk
  have h2 : FP.Core.val64 (FP.ddiv (FP.i2d (zI b)) (FP.i2d (zI ((8 * k + 8 : Nat) : Int)))) = FP.Core.quotient FP.Core.b64 (FP.Core.val64 (FP.i2d (zI b))) (FP.Core.val64 (FP.i2d (zI ((8 * k + 8 : Nat) : Int)))) := FP.Core.val64_ddiv _ _
  rw [h2]
  generalize FP.Core.val64 (FP.i2d (zI ((8 * k + 8 : Nat) : Int))) = d at *
  obtain ⟨s, c, q, h3⟩ := zn_int (b := zI b)
  rcases d with _ | t | ⟨t, c2, q2⟩
  · cases h1
  · cases h1
  · have h4 : c2 ≠ 0 := by
      have : (c2 != 0) = true := h1
      exact bne_iff_ne.mp this
    rcases h3 with h3 | h3
    · rw [h3]
      unfold FP.Core.quotient
      dsimp only
      rw [if_neg h4]
      exact zn_round
    · rw [h3]
      exact fun q => nomatch q
theorem zsv_q {b o : Int} (h : ∃ k : Nat, k < 400 ∧ o = ((8 * k + 8 : Nat) : Int)) : vf_n64 (FP.ddiv (FP.i2d (zI b)) (FP.i2d (zI o))) := zn_64 (zsv_d h)
theorem zsv_s {b o : Int} (h : ∃ k : Nat, k < 400 ∧ o = ((8 * k + 8 : Nat) : Int)) : vf_n64 (FP.dsub FP.dconst1 (FP.ddiv (FP.i2d (zI b)) (FP.i2d (zI o)))) := by
  refine zn_64 ?_
  have h1 := zsv_d (b := b) h
  have h2 : FP.Core.val64 (FP.dsub FP.dconst1 (FP.ddiv (FP.i2d (zI b)) (FP.i2d (zI o)))) = FP.Core.round FP.Core.b64 (FP.Core.exactSum (FP.Core.val64 FP.dconst1) (FP.Core.negate (FP.Core.val64 (FP.ddiv (FP.i2d (zI b)) (FP.i2d (zI o)))))) := FP.Core.val64_dsub _ _
  rw [h2]
  generalize FP.Core.val64 (FP.ddiv (FP.i2d (zI b)) (FP.i2d (zI o))) = d at *
  have h3 : zn_f (FP.Core.val64 FP.dconst1) = true := by decide +kernel
  generalize FP.Core.val64 FP.dconst1 = e at *
  rcases e with _ | t | ⟨t, c2, q2⟩
  · cases h3
  · cases h3
  · rcases d with _ | s | ⟨s, c, q⟩
    · exact absurd rfl h1
    · exact fun q => nomatch q
    · exact zn_round
/-- what saving answers -/
def zsav (b o : Int) : UInt64 := FP.dsub FP.dconst1 (FP.ddiv (FP.i2d (zI b)) (FP.i2d (zI o)))
