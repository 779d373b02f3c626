/-- two stores that differ in what an alignment writes only -/
def zSc (I J : zStore) : Prop := ∀ c j, c ≠ 11 → c ≠ 12 → (c ≠ 10 ∨ j ≠ 6 ∧ j ≠ 7) → J c j = I c j
theorem zSc.rfl {I : zStore} : zSc I I := fun _ _ _ _ _ => Eq.refl _
theorem zSc.trans {I J K : zStore} (h : zSc I J) (h2 : zSc J K) : zSc I K := fun c j a b d => by rw [h2 c j a b d, h c j a b d]
theorem zSc.o {I J : zStore} (h : zSc I J) {c : Nat} {j : Int} (h1 : c ≠ 11) (h2 : c ≠ 12) (h3 : c ≠ 10) : J c j = I c j := h c j h1 h2 (Or.inl h3)
theorem zSc_Ae {I : zStore} {b : Nat} {line : Int} {n m : Nat} : zSc I (zAe I b line n m) := fun c j h1 h2 h3 => by
  unfold zAe
  rcases h3 with h3 | h3
  · rw [zup_k h3, zAs_o h1 h2 (Or.inl h3)]
  · rw [zup_i h3.1, zAs_o h1 h2 (Or.inr h3.2)]
section ZSC
variable {I J : zStore} {b : Nat} {line : Int} {n m : Nat}
theorem zAl_s (h : zSc I J) (hb : 15 ≤ b) (hA : zAl I b line n m) : zAl J b line n m := by
  unfold zAl at hA ⊢
  rw [h 10 1 (by decide) (by decide) (Or.inr (by decide)), h 10 2 (by decide) (by decide) (Or.inr (by decide)), h 10 3 (by decide) (by decide) (Or.inr (by decide)), h.o (c := b) (j := 0) (by omega) (by omega) (by omega), h.o (c := 4) (by decide) (by decide) (by decide)]
  obtain ⟨h1, h2, h3, h4, h5, h6, h7⟩ := hA
  exact ⟨h1, h2, h3, h4, h5, fun i hi => by rw [h.o (c := b + 1) (by omega) (by omega) (by omega)]; exact h6 i hi, h7⟩
theorem zs_s (h : zSc I J) (hb : 15 ≤ b) : zs_ J b = zs_ I b := by
  funext i
  unfold zs_ zsk
  rw [h.o (c := b + 1) (by omega) (by omega) (by omega), h.o (c := b + 6) (by omega) (by omega) (by omega), h.o (c := b) (by omega) (by omega) (by omega), h 10 2 (by decide) (by decide) (Or.inr (by decide))]
theorem zq_s (h : zSc I J) (hb : 15 ≤ b) : zq_ J b line = zq_ I b line := by
  funext i t
  unfold zq_ zpc
  rw [h.o (c := b + 1) (by omega) (by omega) (by omega), h.o (c := b + 2) (by omega) (by omega) (by omega), h.o (c := b + 3) (by omega) (by omega) (by omega), h.o (c := 6) (by decide) (by decide) (by decide), h.o (c := 9) (by decide) (by decide) (by decide), h 10 1 (by decide) (by decide) (Or.inr (by decide))]
theorem zf_s (h : zSc I J) : J 10 3 = I 10 3 := h 10 3 (by decide) (by decide) (Or.inr (by decide))
theorem zCC_s (h : zSc I J) (hb : 15 ≤ b) : zCC J b line = zCC I b line := by
  unfold zCC
  rw [zs_s h hb, zq_s h hb, zf_s h]
theorem zK_s (h : zSc I J) (hb : 15 ≤ b) : zK J b line n m = zK I b line n m := by
  unfold zK
  rw [zs_s h hb, zq_s h hb, zf_s h]
end ZSC
/-- the nearest group so far, and its cost -/
def znr (C : Nat → Int) (K : Nat → Nat) (limit : Int) : Nat → Int × Int
  | 0 => (-1, limit + 1)
  | g + 1 => if (znr C K limit g).2 ≤ C g then znr C K limit g else if K g ≤ 40 then ((g : Int), C g) else znr C K limit g
theorem znr_bd {C : Nat → Int} {K : Nat → Nat} {limit : Int} (hl : 0 ≤ limit ∧ limit ≤ 200) : ∀ g : Nat, (∀ i, i < g → 0 ≤ C i ∧ C i ≤ 1400) → (-1 ≤ (znr C K limit g).1 ∧ (znr C K limit g).1 < g) ∧ 0 ≤ (znr C K limit g).2 ∧ (znr C K limit g).2 ≤ 1400
  | 0, _ => by simp only [znr]; omega
  | g + 1, h => by
    have h1 := znr_bd (K := K) hl g fun i hi => h i (by omega)
    have h2 := h g (by omega)
    simp only [znr]
    repeat' split
    all_goals (try dsimp only)
    all_goals omega
/-- the store after the first g groups were aligned -/
def zns (I : zStore) (line : Int) (m : Nat) (n : Nat → Nat) : Nat → zStore
  | 0 => I
  | g + 1 => zAe (zns I line m n g) (26 + 7 * g) line (n g) m
theorem zns_s {I : zStore} {line : Int} {m : Nat} {n : Nat → Nat} : ∀ g : Nat, zSc I (zns I line m n g)
  | 0 => zSc.rfl
  | g + 1 => (zns_s g).trans zSc_Ae
theorem zns_rg {I : zStore} {line : Int} {m N : Nat} {n : Nat → Nat} (hr : zRg I) (hA : ∀ g : Nat, g < N → zAl I (26 + 7 * g) line (n g) m) : ∀ g : Nat, g ≤ N → zRg (zns I line m n g)
  | 0, _ => hr
  | g + 1, h => zRg_Ae (zAl_s (zns_s g) (by omega) (hA g (by omega))) (zns_rg hr hA g (by omega))
set_option maxHeartbeats 4000000 in
theorem c_X3_nearestGroup {F : zFr} {I : zStore} {line limit : Int} {N m : Nat} {n : Nat → Nat} (hL : zLay F) (hr : zRg I) (hl : 0 ≤ limit ∧ limit ≤ 200) (hN : I 0 8 = N) (hN2 : N ≤ 12) (hA : ∀ g : Nat, g < N → zAl I (26 + 7 * g) line (n g) m) : ∀ (l : Launch) (D : va_G) (cs : Nat → ClassId), l.stackTraces = false → zMt l yX3_nearestGroup cX3_nearestGroup 7 (some .int) rm_X3_nearestGroup D cs F I [.ref (F.1 0), .int (zI line), .int (zI limit)] (fun r I' => r = some (.int (zI (znr (fun g => zCC I (26 + 7 * g) line (n g) m) (fun g => zK I (26 + 7 * g) line (n g) m) limit N).1)) ∧ I' = zns I line m n N) := by
  intro l D cs hst
  refine zMt.ofI hst (by decide +kernel) (Nat.le_of_ble_eq_true rfl) fun G hG hR hE => ?_
  refine s_X3_nearestGroup_0 hG hR hE hL hr (zFm.at hL) hl ?_
  generalize hC : (fun g : Nat => zCC I (26 + 7 * g) line (n g) m) = C at hE
  generalize hK : (fun g : Nat => zK I (26 + 7 * g) line (n g) m) = K at hE
  have hCe : ∀ g : Nat, zCC I (26 + 7 * g) line (n g) m = C g := fun i => by rw [← hC]
  have hKe : ∀ g : Nat, zK I (26 + 7 * g) line (n g) m = K g := fun i => by rw [← hK]
  have hCb : ∀ i : Nat, i < N → 0 ≤ C i ∧ C i ≤ 1400 := fun i hi => by
    have h1 := zCC_bd (hA i hi) (n i) m
    have h2 := (hA i hi).2.2.1
    have h3 := (hA i hi).2.2.2.2.1
    rw [hCe] at h1
    omega
  have key : ∀ (d i : Nat), i + d = N → zW G F 0 0 (zns I line m n i) [(0, .ref (F.1 0)), (1, .int (zI line)), (2, .int (zI limit)), (3, .int (zI (znr C K limit i).1)), (4, .int (zI (znr C K limit i).2)), (5, .int (zI i))] [] 10 := by
    intro d
    induction d with
    | zero =>
      intro i hi
      have e : i = N := by omega
      subst e
      have hJ : zSc I (zns I line m n i) := zns_s i
      have hrJ := zns_rg hr hA i (Nat.le_refl _)
      have hfin : zns I line m n i = zns I line m n i := rfl
      generalize zns I line m n i = J at hJ hrJ hE ⊢
      have hb := znr_bd (C := C) (K := K) hl i hCb
      have e2 : J 0 8 = I 0 8 := hJ.o (by decide) (by decide) (by decide)
      exact s_X3_nearestGroup_10 (b := 15) (J31 := zup (zup I 15 0 0) 10 7 0) (v31 := 0) hG hR hE hL hrJ (zFm.at hL) (by omega) (by omega) (fun _ h => absurd h (by omega)) (by rw [zup_k (by decide), zup_at]; decide) (by rw [zup_at]; decide) (fun _ => ⟨rfl, rfl⟩) (fun h => absurd h (by omega)) (zRg_up (zRg_up hr (by decide)) (by decide)) (by omega) (fun h => absurd h (by omega)) (fun h => absurd h (by omega)) (fun h => absurd h (by omega))
    | succ d ih =>
      intro i hi
      have hJ : zSc I (zns I line m n i) := zns_s i
      have hrJ := zns_rg hr hA i (by omega)
      have h15 : 15 ≤ 26 + 7 * i := by omega
      have hAi := zAl_s hJ h15 (hA i (by omega))
      have hb := znr_bd (C := C) (K := K) hl i fun x hx => hCb x (by omega)
      have hbi := hCb i (by omega)
      have e2 : (zns I line m n i) 0 8 = I 0 8 := hJ.o (by decide) (by decide) (by decide)
      have hc := c_X0_align hL hrJ (zFm.gr hL i (by omega)) hAi
      rw [zCC_s hJ h15, hCe] at hc
      have hrA := zRg_Ae hAi hrJ
      have hKn := zK_n (I := (zns I line m n i)) (b := 26 + 7 * i) (line := line) (n := n i) (m := m)
      have hKl := zK_le hAi
      have e0 : zAe (zns I line m n i) (26 + 7 * i) line (n i) m (26 + 7 * i) 0 = n i := by rw [zAe_o (by omega) (by omega) (by omega)]; exact hAi.2.1
      have e7 := zAe_7 (I := (zns I line m n i)) (b := 26 + 7 * i) (line := line) (n := n i) (m := m)
      have hz := zfc_bd (zw_ (zns I line m n i) (26 + 7 * i) line (n i) m) (zK (zns I line m n i) (26 + 7 * i) line (n i) m)
      have hn2 := hAi.2.2.1
      have e8 := zK_s (line := line) (n := n i) (m := m) hJ h15
      rw [hKe] at e8
      have h := ih (i + 1) (by omega)
      have hns : zns I line m n (i + 1) = zAe (zns I line m n i) (26 + 7 * i) line (n i) m := rfl
      rw [hns] at h
      generalize zns I line m n i = J at *
      have hs : znr C K limit (i + 1) = if (znr C K limit i).2 ≤ C i then znr C K limit i else if K i ≤ 40 then ((i : Int), C i) else znr C K limit i := rfl
      rw [hs] at h
      refine s_X3_nearestGroup_10 (b := 26 + 7 * i) (J31 := zAe J (26 + 7 * i) line (n i) m) (v31 := C i) hG hR hE hL hrJ (zFm.gr hL i (by omega)) (by omega) (by omega) (fun _ _ => by omega) (by omega) (by omega) (fun e => absurd e (by omega)) (fun _ => hc) hrA (by omega) (fun _ e => ?_) (fun _ e e3 => ?_) (fun _ e e3 => ?_)
      · rw [if_pos e] at h
        exact h
      · rw [if_neg (by omega), if_neg (by omega)] at h
        exact h
      · rw [if_neg (by omega), if_pos (by omega)] at h
        exact h
  exact key N 0 (by omega)
