/-- two stores that differ in the cell k only -/
def zEq (k : Nat) (I J : zStore) : Prop := ∀ c j, c ≠ k → J c j = I c j
theorem zAl_c {k : Nat} {I J : zStore} {b : Nat} {line : Int} {n m : Nat} (h : zEq k I J) (h1 : b ≠ k) (h2 : b + 1 ≠ k) (h3 : 4 ≠ k) (h4 : 10 ≠ k) (hA : zAl I b line n m) : zAl J b line n m := by
  unfold zAl at hA ⊢
  simp only [h _ _ h1, h _ _ h2, h _ _ h3, h _ _ h4]
  exact hA
theorem zCC_c {k : Nat} {I J : zStore} {b : Nat} {line : Int} (h : zEq k I J) (h0 : b ≠ k) (h1 : b + 1 ≠ k) (h2 : b + 2 ≠ k) (h3 : b + 3 ≠ k) (h4 : b + 6 ≠ k) (h5 : 6 ≠ k) (h6 : 9 ≠ k) (h7 : 10 ≠ k) : zCC J b line = zCC I b line := by
  have e1 : zs_ J b = zs_ I b := by
    funext i
    unfold zs_
    rw [h _ _ h1]
    exact zsk_c h h4 h0 h7
  have e2 : zq_ J b line = zq_ I b line := by
    funext i t
    unfold zq_
    rw [h _ _ h1]
    exact zpc_c h h2 h3 h5 h6 h7
  unfold zCC
  rw [e1, e2, h _ _ h7]
theorem c_X3_costWith {F : zFr} {I : zStore} {line : Int} {n : Nat} {m : Nat} (hL : zLay F) (hr : zRg I) (hl : -2147483648 ≤ line ∧ line < 2147483648) (hn : 0 ≤ I 2 0 ∧ I 2 0 ≤ 12) (hA : 0 ≤ line → line < I 2 0 → zAl I 15 line n m) : ∀ (l : Launch) (D : va_G) (cs : Nat → ClassId), l.stackTraces = false → zMx l yX3_costWith cX3_costWith 2 (some .int) rm_X3_costWith D cs F I [.ref (F.1 0), .int (zI line)] (fun r I' => (0 ≤ line ∧ line < I 2 0) ∧ r = some (.int (zI (zCC I 15 line n m))) ∧ I' = ztab I 11 m n (zCC I 15 line)) (fun E I' => I' = I ∧ (E = "java/lang/IndexOutOfBoundsException" ∧ ¬ (0 ≤ line ∧ line < I 2 0))) := by
  intro l D cs hst
  refine zMx.ofI hst (by decide +kernel) rfl (Nat.le_of_ble_eq_true rfl) fun G hG hR hE hT => ?_
  by_cases q : 0 ≤ line ∧ line < I 2 0
  · have hA' := hA q.1 q.2
    have hb := zCC_bd hA' n m
    have hn2 := hA'.2.2.1
    have hm2 := hA'.2.2.2.2.1
    exact s_X3_costWith_0 (v14 := zCC I 15 line n m) (J14 := ztab I 11 m n (zCC I 15 line)) hG hR hE hT hL hr hl hn (fun e => absurd q e) (fun _ => c_X0_leastCost hL hr (zFm.at hL) hA') (zRg_tabCC hA' hr hn2) (by omega) (fun e => ⟨e, rfl, rfl⟩)
  · exact s_X3_costWith_0 (v14 := 0) (J14 := I) hG hR hE hT hL hr hl hn (fun e => ⟨rfl, rfl, e⟩) (fun e => absurd e q) hr (by omega) (fun e => absurd e q)
theorem c_X3_fits {F : zFr} {I : zStore} {line : Int} {n : Nat} {m : Nat} (hL : zLay F) (hr : zRg I) (hl : -2147483648 ≤ line ∧ line < 2147483648) (hn : 0 ≤ I 2 0 ∧ I 2 0 ≤ 12) (hA : 0 ≤ line → line < I 2 0 → zAl I 15 line n m) : ∀ (l : Launch) (D : va_G) (cs : Nat → ClassId), l.stackTraces = false → zMx l yX3_fits cX3_fits 2 (some .boolean) rm_X3_fits D cs F I [.ref (F.1 0), .int (zI line)] (fun r I' => (0 ≤ line ∧ line < I 2 0) ∧ r = some (.int (zI (zb (zRR I 15 line n m)))) ∧ I' = zM I 15 line m n) (fun E I' => I' = I ∧ (E = "java/lang/IndexOutOfBoundsException" ∧ ¬ (0 ≤ line ∧ line < I 2 0))) := by
  intro l D cs hst
  refine zMx.ofZ hst (by decide +kernel) rfl (Nat.le_of_ble_eq_true rfl) fun G hG hR hE hT => ?_
  by_cases q : 0 ≤ line ∧ line < I 2 0
  · have hA' := hA q.1 q.2
    have hb : ∀ x : Bool, zb x = 0 ∨ zb x = 1 := fun x => by cases x; exact Or.inl rfl; exact Or.inr rfl
    exact s_X3_fits_0 (v14 := zb (zRR I 15 line n m)) (J14 := zM I 15 line m n) hG hR hE hT hL hr hl hn (fun e => absurd q e) (fun _ => c_X0_isMatch hL hr (zFm.at hL) hA') (zRg_b hr) (hb _) (fun e => ⟨e, rfl, rfl⟩)
  · exact s_X3_fits_0 (v14 := 0) (J14 := I) hG hR hE hT hL hr hl hn (fun e => ⟨rfl, rfl, e⟩) (fun e => absurd e q) hr (by omega) (fun e => absurd e q)
/-- the first of the greatest costs, and that cost -/
def zsg (C : Nat → Int) : Nat → Int × Int
  | 0 => (-1, -1)
  | l + 1 => if C l ≤ (zsg C l).2 then zsg C l else ((l : Int), C l)
theorem zsg_bd {C : Nat → Int} {b : Int} (hb : -1 ≤ b) : ∀ l : Nat, (∀ i, i < l → -1 ≤ C i ∧ C i ≤ b) → (-1 ≤ (zsg C l).1 ∧ (zsg C l).1 < l) ∧ -1 ≤ (zsg C l).2 ∧ (zsg C l).2 ≤ b
  | 0, _ => by simp only [zsg]; omega
  | l + 1, h => by
    have h1 := zsg_bd hb l fun i hi => h i (by omega)
    have h2 := h l (by omega)
    simp only [zsg]
    split <;> (try dsimp only) <;> omega
set_option maxHeartbeats 4000000 in
theorem c_X3_strangest {F : zFr} {I : zStore} {N n : Nat} {m : Nat → Nat} (hL : zLay F) (hr : zRg I) (hN : I 2 0 = N) (hN2 : N ≤ 12) (hA : ∀ line : Nat, line < N → zAl I 15 line n (m line)) : ∀ (l : Launch) (D : va_G) (cs : Nat → ClassId), l.stackTraces = false → zMt l yX3_strangest cX3_strangest 5 (some .int) rm_X3_strangest D cs F I [.ref (F.1 0)] (fun r I' => r = some (.int (zI (zsg (fun line => zCC I 15 line n (m line)) N).1)) ∧ zEq 11 I I' ∧ zRg I') := by
  intro l D cs hst
  refine zMt.ofI hst (by decide +kernel) (Nat.le_of_ble_eq_true rfl) fun G hG hR hE => ?_
  refine s_X3_strangest_0 hG hR hE hL hr ?_
  generalize hC : (fun line : Nat => zCC I 15 line n (m line)) = C at hE
  have hCe : ∀ i : Nat, zCC I 15 i n (m i) = C i := fun i => by rw [← hC]
  have hCb : ∀ i : Nat, i < N → -1 ≤ C i ∧ C i ≤ 1400 := fun i hi => by
    have h1 := zCC_bd (hA i hi) n (m i)
    have h2 := (hA i hi).2.2.1
    have h3 := (hA i hi).2.2.2.2.1
    rw [hCe] at h1
    omega
  have key : ∀ (d i : Nat) (J : zStore), i + d = N → zEq 11 I J → zRg J → zW G F 0 0 J [(0, .ref (F.1 0)), (1, .int (zI (zsg C i).1)), (2, .int (zI (zsg C i).2)), (3, .int (zI i))] [] 6 := by
    intro d
    induction d with
    | zero =>
      intro i J hi hJ hrJ
      have e : i = N := by omega
      subst e
      have hb := zsg_bd (C := C) (b := 1400) (by omega) i hCb
      have e2 : J 2 0 = I 2 0 := hJ _ _ (by decide)
      exact s_X3_strangest_6 (J26 := J) (v26 := 0) hG hR hE hL hrJ (by omega) (by omega) (fun _ => ⟨rfl, hJ, hrJ⟩) (fun h => absurd h (by omega)) hrJ (by omega) (fun h => absurd h (by omega)) (fun h => absurd h (by omega))
    | succ d ih =>
      intro i J hi hJ hrJ
      have hAi := zAl_c hJ (by decide) (by decide) (by decide) (by decide) (hA i (by omega))
      have hb := zsg_bd (C := C) (b := 1400) (by omega) i fun x hx => hCb x (by omega)
      have hbi := hCb i (by omega)
      have e2 : J 2 0 = I 2 0 := hJ _ _ (by decide)
      have e3 : zCC J 15 i = zCC I 15 i := zCC_c hJ (by decide) (by decide) (by decide) (by decide) (by decide) (by decide) (by decide) (by decide)
      have hrt := zRg_tabCC (k := 11) hAi hrJ hAi.2.2.1
      have hc := c_X0_leastCost hL hrJ (zFm.at hL) hAi
      rw [e3, hCe] at hc
      rw [e3] at hrt
      have hJ2 : zEq 11 I (ztab J 11 (m i) n (zCC I 15 i)) := fun c j h => by rw [ztab_k h, hJ c j h]
      have h := ih (i + 1) _ (by omega) hJ2 hrt
      refine s_X3_strangest_6 (J26 := ztab J 11 (m i) n (zCC I 15 i)) (v26 := C i) hG hR hE hL hrJ (by omega) (by omega) (fun e => absurd e (by omega)) (fun _ => hc) hrt (by omega) (fun _ e => ?_) (fun _ e => ?_)
      · simp only [zsg] at h
        rw [if_pos e] at h
        exact h
      · simp only [zsg] at h
        rw [if_neg (by omega)] at h
        exact h
  exact key N 0 I (by omega) (fun _ _ _ => rfl) hr
abbrev rm_X3_numberAt : Room := { frames := 7, cells := 2, slots := 12, locals := 103 }
abbrev rm_X3_isRising : Room := { frames := 7, cells := 1, slots := 6, locals := 103 }
/-- every number of the slot id can be read -/
def zNb (I : zStore) (id : Int) (n : Int) : Prop := ∀ line : Int, 0 ≤ line → line < n → zti I line id ≠ (-1) → I 17 id = 1 → zTk I (line * 30 + zti I line id) ∧ 0 ≤ zno I (line * 30 + zti I line id) ∧ zno I (line * 30 + zti I line id) < 2147483648
theorem znb_rg {I : zStore} {id n line : Int} (h : zNb I id n) (h0 : 0 ≤ line) (h1 : line < n) : -1 ≤ znb I line id ∧ znb I line id < 2147483648 := by
  unfold znb
  split
  · rename_i q
    have h2 := h line h0 h1 q.1 q.2
    omega
  · omega
/-- do the numbers rise so far, and the last of them -/
def zrs (t nb : Nat → Int) : Nat → Bool × Int
  | 0 => (true, -1)
  | l + 1 => if t l = (-1) then zrs t nb l else if nb l ≤ (zrs t nb l).2 then (false, (zrs t nb l).2) else ((zrs t nb l).1, nb l)
theorem zrs_f {t nb : Nat → Int} {l : Nat} (h : (zrs t nb l).1 = false) : ∀ d : Nat, (zrs t nb (l + d)).1 = false
  | 0 => h
  | d + 1 => by
    have h1 := zrs_f h d
    rw [← Nat.add_assoc]
    simp only [zrs]
    split
    · exact h1
    · split
      · rfl
      · exact h1
theorem zrs_rg {t nb : Nat → Int} : ∀ l : Nat, (∀ i, i < l → -1 ≤ nb i ∧ nb i < 2147483648) → -1 ≤ (zrs t nb l).2 ∧ (zrs t nb l).2 < 2147483648
  | 0, _ => by simp only [zrs]; omega
  | l + 1, h => by
    have h1 := zrs_rg (t := t) (nb := nb) l fun i hi => h i (by omega)
    have h2 := h l (by omega)
    simp only [zrs]
    repeat' split
    all_goals (try dsimp only); omega
/-- is the slot id rising -/
def zrise (I : zStore) (id : Int) (n : Nat) : Bool := decide (I 17 id = 1 ∧ 2 ≤ I 21 id) && (zrs (fun l => zti I l id) (fun l => znb I l id) n).1
