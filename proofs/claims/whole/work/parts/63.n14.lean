theorem z_dropJ {G : zCx} {F : zFr} {cells slots : Nat} {I J : zStore} {lv : zLv} {st : List Value} {pc : Nat} {a : Nat} {sp : zSpec} (hW : zWf F) (h : ∀ k, k < F.2.1 → J k = I k) (k : zW G F cells slots I lv st pc) : zW G (zgrow F a sp) cells slots J lv st pc := by
  refine z_drop hW ?_
  obtain ⟨p, l, e, R, s, m, args, below, meth, c, Q, A, nn, D, cs⟩ := G
  intro hc hs H locs ls hP hD hS hl
  have e : zws cs F J = zws cs F I := by
    unfold zws
    refine List.map_congr_left fun k hk => ?_
    have hk := List.mem_range.mp hk
    rw [zE_congr (I' := J) (I := I) (fun i => by rw [h k hk])]
  rw [e] at hP hD
  exact k hc hs H locs ls hP hD hS hl
/-- the table in the cell x while it is made -/
def zxtab (I : zStore) (x m : Nat) (C : Nat → Nat → Int) : Nat → zStore
  | 0 => I
  | i + 1 => ztab I x m i C
section ZXT
variable {I : zStore} {x m : Nat} {C : Nat → Nat → Int}
theorem ztab_0x (hm : m ≤ 30) : zfl I x 0 (m + 1) (C 0) = ztab I x m 0 C := ztab_0 hm
theorem zxtab_s (hm : m ≤ 30) : ∀ i : Nat, zfl (zxtab I x m C i) x (31 * i) (m + 1) (C i) = zxtab I x m C (i + 1)
  | 0 => by
    show zfl I x (31 * ((0 : Nat) : Int)) (m + 1) (C 0) = ztab I x m 0 C
    rw [← ztab_0 hm]
    rfl
  | i + 1 => ztab_s hm (by omega)
theorem zxtab_o {c : Nat} (h : c ≠ x) : ∀ i : Nat, zxtab I x m C i c = I c
  | 0 => rfl
  | i + 1 => funext fun j => ztab_k h
theorem zxtab_rg (hr : zRg I) (hC : ∀ r t, -2147483648 ≤ C r t ∧ C r t < 2147483648) : ∀ i : Nat, zRg (zxtab I x m C i)
  | 0 => hr
  | i + 1 => zRg_tab hr fun r t _ _ => hC r t
theorem zxtab_in (hm : m ≤ 30) {i t r y : Nat} (ht : t ≤ 31) (hr : r < i ∧ y ≤ m ∨ r = i ∧ y < t) : zfl (zxtab I x m C i) x (31 * i) t (C i) x (31 * r + y) = C r y := by
  rcases hr with hr | hr
  · rw [zfl_out (Or.inl (by omega))]
    rcases i with _ | i
    · omega
    · exact ztab_in (by omega) hr.2 hm rfl
  · rw [hr.1]
    exact zfl_in hr.2 rfl
theorem zxtab_01 (hI : ∀ j, I x j = 0 ∨ I x j = 1) (hC : ∀ r t, C r t = 0 ∨ C r t = 1) {t : Nat} : ∀ (i : Nat) (j : Int), zfl (zxtab I x m C i) x (31 * i) t (C i) x j = 0 ∨ zfl (zxtab I x m C i) x (31 * i) t (C i) x j = 1 := by
  intro i j
  unfold zfl
  split
  · exact hC _ _
  · rcases i with _ | i
    · exact hI j
    · show ztab I x m i C x j = 0 ∨ ztab I x m i C x j = 1
      unfold ztab
      split
      · exact hC _ _
      · exact hI j
end ZXT
theorem zR_st {cm : Nat → Bool} {tk : Nat → Nat → Bool} : ∀ i t : Nat, zR cm tk i t = ((decide (i + t = 0) || (decide (0 < i) && (zR cm tk (i - 1) t && cm (i - 1)))) || (decide (0 < i) && (decide (0 < t) && (zR cm tk (i - 1) (t - 1) && tk (i - 1) (t - 1)))))
  | 0, 0 => rfl
  | 0, t + 1 => by simp [zR]
  | i + 1, 0 => by simp [zR, Bool.and_comm]
  | i + 1, t + 1 => by simp [zR, Bool.and_comm]
theorem zb_d {p : Prop} [Decidable p] : zb (decide p) = if p then 1 else 0 := by
  by_cases h : p
  · rw [decide_eq_true h, if_pos h]
    rfl
  · rw [decide_eq_false h, if_neg h]
    rfl
/-- the model's fits -/
def zmcm (I : zStore) (i : Nat) : Bool := decide (zmu (I 122) 0 i (I 110 3).toNat < zbc (I 119 0))
def zmcp (I : zStore) (slot own : Int) : Int := (if I 120 (40 * 0 + slot) ≠ I 115 own then 0 else if I 121 (40 * 0 + slot) ≠ (-1) then zb (zmS (I 117) (I 116) (I 113) (I 121 (40 * 0 + slot)) own) else if zme (I 122) (I 117) slot 0 (I 110 3).toNat ≤ I 117 own ∧ I 117 own ≤ zme (I 122) (I 117) slot 1 (I 110 3).toNat then 1 else 0)
def zmR (I : zStore) (line : Int) : Nat → Nat → Bool := zR (zmcm I) (fun i t => zmcp I i (30 * line + t) != 0)
def zmFt (I : zStore) (line : Int) (n m : Nat) : Prop := (0 ≤ line ∧ line < 12) ∧ (I 118 0 = n ∧ n ≤ 40) ∧ (I 114 line = m ∧ m ≤ 30) ∧ (0 ≤ I 110 3 ∧ I 110 3 ≤ 12) ∧ (0 ≤ I 119 0 ∧ I 119 0 < 4096) ∧ (∀ i : Nat, i < n → I 121 (40 * 0 + (i : Int)) ≠ (-1) → zmT I (I 121 (40 * 0 + (i : Int)))) ∧ (∀ t : Nat, t < m → zmT I (30 * line + t)) ∧ ∀ i : Nat, i < n → ∀ l : Int, 0 ≤ l → l < I 110 3 → I 122 (12 * (40 * 0 + (i : Int)) + l) ≠ (-1) → 0 ≤ I 122 (12 * (40 * 0 + (i : Int)) + l) ∧ I 122 (12 * (40 * 0 + (i : Int)) + l) < 30
theorem zmcp_01 (I : zStore) (slot own : Int) : zmcp I slot own = 0 ∨ zmcp I slot own = 1 := by
  unfold zmcp
  split
  · exact Or.inl rfl
  · split
    · exact zb_bd _
    · split
      · exact Or.inr rfl
      · exact Or.inl rfl
set_option maxHeartbeats 16000000 in
theorem c_X4_fits {F : zFr} {I : zStore} {line : Int} {n m : Nat} (hL : zLayM F) (hr : zRg I) (hW : zWf F) (hl : -2147483648 ≤ line ∧ line < 2147483648) (hP : 0 ≤ line → line < I 110 3 → zmFt I line n m) : ∀ (l : Launch) (D : va_G) (cs : Nat → ClassId), l.stackTraces = false → zMt l yX4_fits cX4_fits 6 (some .boolean) rm_X4_fits D cs F I [.ref (F.1 110), .int (zI line)] (fun r I' => r = some (.int (zI (if 0 ≤ line ∧ line < I 110 3 then zb (zmR I line n m) else 0))) ∧ I' = zup I 110 0 (if 0 ≤ line ∧ line < I 110 3 then 0 else 1)) := by
  intro l D cs hst
  refine zMt.ofZ hst (by decide +kernel) (Nat.le_of_ble_eq_true rfl) fun G hG hR hE => ?_
  refine s_X4_fits_0 hG hR hE hL hr hl (fun q _ => by rw [if_neg q, if_neg q]; exact ⟨rfl, rfl⟩) (fun q _ => ?_)
  rw [if_pos q, if_pos q] at hE
  obtain ⟨p1, p2, p3, p4, p5, p6, p7, p8⟩ := hP q.1 q.2
  have hr1 : zRg (zup I 110 0 0) := zRg_up hr (by decide)
  refine z_sipush 1271 hG dX4_fits_26 (by decide) ?_
  refine z_newZ (N := 1271) hG hR hW kw111 (by decide) (by decide) (by decide) dX4_fits_29 (fun a => ?_)
  have hx129 := hL.1
  have ee : zW G (zgrow F a (.inr (.inl (2, 1271)))) (0 + 1) (0 + 1271) (zzr (zup I 110 0 0) F.2.1) [(0, .ref (F.1 110)), (1, .int (zI line))] [.ref a] 31 = zW G (zgrow F a (.inr (.inl (2, 1271)))) 1 1271 (zzr (zup I 110 0 0) F.2.1) [(0, .ref ((zgrow F a (.inr (.inl (2, 1271)))).1 110)), (1, .int (zI line))] [.ref ((zgrow F a (.inr (.inl (2, 1271)))).1 F.2.1)] 31 := by
    rw [zgrow_ad (show 110 < F.2.1 by omega), zgrow_adn]
  refine cast ee.symm ?_
  have hL2 : zLayM (zgrow F a (.inr (.inl (2, 1271)))) := zLayM_grow hL
  have hE2 : zRetZ G (zgrow F a (.inr (.inl (2, 1271)))) cX4_fits 1 1271 (fun r J => ∃ I0, (∀ k, k < F.2.1 → J k = I0 k) ∧ r = some (.int (zI (zb (zmR I line n m)))) ∧ I0 = zup I 110 0 0) := fun y J lv pc hd hy hp => by
    obtain ⟨I0, h1, h2⟩ := hp
    exact z_dropJ hW h1 (hE y I0 lv pc hd hy h2)
  have hln : F.2.1 < (zgrow F a (.inr (.inl (2, 1271)))).2.1 := Nat.lt_succ_self _
  have hsn : (zgrow F a (.inr (.inl (2, 1271)))).2.2 F.2.1 = .inr (.inl (2, 1271)) := zgrow_spn
  have hagree0 : ∀ c, c ≠ F.2.1 → zzr (zup I 110 0 0) F.2.1 c = zup I 110 0 0 c := fun c hc => zzr_o hc
  have hr0 : zRg (zzr (zup I 110 0 0) F.2.1) := zRg_zr hr1
  have hz0 : ∀ j, zzr (zup I 110 0 0) F.2.1 F.2.1 j = 0 ∨ zzr (zup I 110 0 0) F.2.1 F.2.1 j = 1 := fun j => Or.inl zzr_k
  generalize hF2 : zgrow F a (.inr (.inl (2, 1271))) = F2 at *
  generalize hx : F.2.1 = x at *
  generalize hJ0 : zzr (zup I 110 0 0) x = J0 at *
  obtain ⟨C, hC⟩ : ∃ C : Nat → Nat → Int, C = fun i t => zb (zmR I line i t) := ⟨_, rfl⟩
  have hCe : ∀ i t, C i t = zb (zmR I line i t) := fun i t => by rw [hC]
  have hC01 : ∀ r t, C r t = 0 ∨ C r t = 1 := fun r t => by rw [hCe]; exact zb_bd _
  have hCrg : ∀ r t, -2147483648 ≤ C r t ∧ C r t < 2147483648 := fun r t => by have := hC01 r t; omega
  refine z_astore_n (lv' := [(2, .ref (F2.1 x)), (0, .ref (F2.1 110)), (1, .int (zI line))]) hG dX4_fits_31 rfl (by decide) rfl ?_
  refine z_iconst 0 hG dX4_fits_32 ?_
  refine z_istore_n (lv' := [(3, .int (zI 0)), (2, .ref (F2.1 x)), (0, .ref (F2.1 110)), (1, .int (zI line))]) hG dX4_fits_33 rfl (by decide) rfl ?_
  refine z_perm (lv' := [(0, .ref (F2.1 110)), (1, .int (zI line)), (2, .ref (F2.1 x)), (3, .int (zI 0))]) [2, 3, 1, 0] rfl ?_
  -- what any store of the loops has
  have oc : ∀ (i t c : Nat), c ≠ x → zfl (zxtab J0 x m C i) x (31 * i) t (C i) c = zup I 110 0 0 c := fun i t c hc => by
    rw [show zfl (zxtab J0 x m C i) x (31 * i) t (C i) c = zxtab J0 x m C i c from funext fun j => zfl_k hc, zxtab_o hc, hagree0 c hc]
  have oc1 : ∀ (i c : Nat), c ≠ x → zxtab J0 x m C i c = zup I 110 0 0 c := fun i c hc => by rw [zxtab_o hc, hagree0 c hc]
  have orr : ∀ i t : Nat, zRg (zfl (zxtab J0 x m C i) x (31 * i) t (C i)) := fun i t => zRg_fl (zxtab_rg hr0 hCrg i) fun y _ => hCrg i y
  have u118 : zup I 110 0 0 118 0 = n := p2.1
  have u114 : zup I 110 0 0 114 line = m := p3.1
  have outer : ∀ (d i : Nat), i + d = n + 1 → zW G F2 1 1271 (zxtab J0 x m C i) [(0, .ref (F2.1 110)), (1, .int (zI line)), (2, .ref (F2.1 x)), (3, .int (zI i))] [] 34 := by
    intro d
    induction d with
    | zero =>
      intro i hi
      have e : i = n + 1 := by omega
      subst e
      have h01 := zxtab_01 (m := m) (t := 0) hz0 hC01 (n + 1)
      rw [zfl_0] at h01
      have e1 : zxtab J0 x m C (n + 1) 118 0 = n := by rw [oc1 _ 118 (by omega)]; exact u118
      have e2 : zxtab J0 x m C (n + 1) 114 line = m := by rw [oc1 _ 114 (by omega)]; exact u114
      refine s_X4_fits_34 hG hR hE2 hL2 (zxtab_rg hr0 hCrg _) (by omega) hln hsn p1 (by omega) (by omega) (by omega) h01 (fun _ => ⟨zup I 110 0 0, fun k hk => oc1 _ k (by omega), ?_, rfl⟩) (fun q => absurd q (by omega))
      rw [e1, e2, ← hCe]
      show some (Value.int (zI (ztab J0 x m n C x (31 * (n : Int) + m)))) = _
      rw [ztab_in (Nat.le_refl n) (Nat.le_refl m) p3.2 rfl]
    | succ d ih =>
      intro i hi
      have h01 := zxtab_01 (m := m) (t := 0) hz0 hC01 i
      rw [zfl_0] at h01
      have e1 : zxtab J0 x m C i 118 0 = n := by rw [oc1 _ 118 (by omega)]; exact u118
      have e2 : zxtab J0 x m C i 114 line = m := by rw [oc1 _ 114 (by omega)]; exact u114
      refine s_X4_fits_34 hG hR hE2 hL2 (zxtab_rg hr0 hCrg _) (by omega) hln hsn p1 (by omega) (by omega) (by omega) h01 (fun q => absurd q (by omega)) (fun _ => ?_)
      have inner : ∀ (e t : Nat), t + e = m + 1 → zW G F2 1 1271 (zfl (zxtab J0 x m C i) x (31 * i) t (C i)) [(0, .ref (F2.1 110)), (1, .int (zI line)), (2, .ref (F2.1 x)), (3, .int (zI i)), (4, .int (zI t))] [] 47 := by
        intro e
        induction e with
        | zero =>
          intro t ht
          have e9 : t = m + 1 := by omega
          subst e9
          rw [zxtab_s p3.2]
          have e1' : zxtab J0 x m C (i + 1) 118 0 = n := by rw [oc1 _ 118 (by omega)]; exact u118
          have e2' : zxtab J0 x m C (i + 1) 114 line = m := by rw [oc1 _ 114 (by omega)]; exact u114
          exact s_X4_fits_47 hG hR hE2 hL2 (zxtab_rg hr0 hCrg _) (by omega) hln hsn p1 (by omega) (by omega) (by omega) (by omega) (fun _ => ih (i + 1) (by omega)) (fun q => absurd q (by omega)) (fun q => absurd q (by omega))
        | succ e ih2 =>
          intro t ht
          have hn := ih2 (t + 1) (by omega)
          have hrJ := orr i t
          have hoc := oc i t
          have hz := zxtab_01 (m := m) (t := t) hz0 hC01 i
          have hin : ∀ r y : Nat, (r < i ∧ y ≤ m ∨ r = i ∧ y < t) → zfl (zxtab J0 x m C i) x (31 * i) t (C i) x (31 * r + y) = C r y := fun r y => zxtab_in p3.2 (by omega)
          have hup : zup (zfl (zxtab J0 x m C i) x (31 * i) t (C i)) x (31 * (i : Int) + t) (C i t) = zfl (zxtab J0 x m C i) x (31 * i) (t + 1) (C i) := zfl_up rfl rfl
          rw [← hup] at hn
          generalize zfl (zxtab J0 x m C i) x (31 * i) t (C i) = J at *
          have c118 : J 118 0 = n := by rw [hoc 118 (by omega)]; exact u118
          have c114 : J 114 line = m := by rw [hoc 114 (by omega)]; exact u114
          have c122 : J 122 = I 122 := by rw [hoc 122 (by omega)]; rfl
          have c121 : J 121 = I 121 := by rw [hoc 121 (by omega)]; rfl
          have c120 : J 120 = I 120 := by rw [hoc 120 (by omega)]; rfl
          have c119 : J 119 = I 119 := by rw [hoc 119 (by omega)]; rfl
          have c117 : J 117 = I 117 := by rw [hoc 117 (by omega)]; rfl
          have c116 : J 116 = I 116 := by rw [hoc 116 (by omega)]; rfl
          have c115 : J 115 = I 115 := by rw [hoc 115 (by omega)]; rfl
          have c113 : J 113 = I 113 := by rw [hoc 113 (by omega)]; rfl
          have c3 : J 110 3 = I 110 3 := by rw [hoc 110 (by omega)]; rfl
          have cT : ∀ p, zmT I p → zmT J p := fun p hp => by
            unfold zmT at *
            rw [c116, c117]
            exact hp
          have hst := zR_st (cm := zmcm I) (tk := fun i t => zmcp I i (30 * line + t) != 0) i t
          have hRd : ∀ i t, zmR I line i t = zR (zmcm I) (fun i t => zmcp I i (30 * line + t) != 0) i t := fun _ _ => rfl
          rw [← hRd, ← hRd, ← hRd] at hst
          have h167 : ∀ b : Bool, b = zmR I line i t → zW G F2 1 1271 J [(0, .ref (F2.1 110)), (1, .int (zI line)), (2, .ref (F2.1 x)), (3, .int (zI i)), (4, .int (zI t)), (5, .int (zI (zb b)))] [] 167 := fun b hb => by
            subst hb
            refine s_X4_fits_167 hG hR hE2 hL2 hrJ (by omega) hln hsn (by omega) (by omega) (zb_bd _) ?_
            rw [← hCe]
            exact hn
          generalize hb0 : decide (i + t = 0) = b0 at *
          have h112 : ∀ b : Bool, b = (b0 || (decide (0 < i) && (zmR I line (i - 1) t && zmcm I (i - 1)))) → zW G F2 1 1271 J [(0, .ref (F2.1 110)), (1, .int (zI line)), (2, .ref (F2.1 x)), (3, .int (zI i)), (4, .int (zI t)), (5, .int (zI (zb b)))] [] 112 := fun b hb => by
            rw [← hb] at hst
            have cell : 0 < i → 0 < t → J x (31 * ((i : Int) - 1) + ((t : Int) - 1)) = zb (zmR I line (i - 1) (t - 1)) := fun q1 q2 => by
              rw [← hCe, ← hin (i - 1) (t - 1) (Or.inl (by omega))]
              congr 1
              omega
            have own : 0 < t → 30 * line + (t : Int) - 1 = 30 * line + ((t - 1 : Nat) : Int) := fun q1 => by omega
            have sl : 0 < i → (i : Int) - 1 = ((i - 1 : Nat) : Int) := fun q1 => by omega
            refine s_X4_fits_112 (v154 := zmcp I ((i - 1 : Nat) : Int) (30 * line + ((t - 1 : Nat) : Int))) hG hR hE2 hL2 hrJ (by omega) hln hsn (by omega) (by omega) (zb_bd _) hz p1 (fun q1 => ?_) (fun q1 q2 => ?_) (fun q1 q2 q3 => ?_) (fun q1 q2 q3 q4 => ?_) (fun q1 q2 q3 q4 => ?_) (zmcp_01 _ _ _) (fun q1 q2 q3 q4 q5 => ?_) (fun q1 q2 q3 q4 q5 => ?_)
            · exact h167 true (by rw [hst, zb1_ q1]; rfl)
            · exact h167 false (by rw [hst, zb0 q1, decide_eq_false (by omega)]; rfl)
            · exact h167 false (by rw [hst, zb0 q1, decide_eq_false (p := 0 < t) (by omega), Bool.false_and, Bool.and_false]; rfl)
            · rw [cell (by omega) (by omega)] at q4
              exact h167 false (by rw [hst, zb0 q1, zb0 q4, Bool.false_and, Bool.and_false, Bool.and_false]; rfl)
            · rw [own (by omega), sl (by omega)]
              have hc := c_X4_canPair hL2 hrJ (slot := ((i - 1 : Nat) : Int)) (own := 30 * line + ((t - 1 : Nat) : Int)) (by omega) (by rw [c3]; exact p4) (by rw [c3, c122]; exact p8 (i - 1) (by omega)) (cT _ (p7 (t - 1) (by omega))) (fun _ => by rw [c121]; exact fun q => cT _ (p6 (i - 1) (by omega) q))
              rw [c120, c115, c121, c122, c117, c116, c113, c3] at hc
              exact hc
            · rw [cell (by omega) (by omega)] at q4
              exact h167 false (by rw [hst, zb0 q1, show (zmcp I ((i - 1 : Nat) : Int) (30 * line + ((t - 1 : Nat) : Int)) != 0) = false by rw [q5]; rfl, Bool.and_false, Bool.and_false, Bool.and_false]; rfl)
            · rw [cell (by omega) (by omega)] at q4
              exact h167 true (by rw [hst, zb1_ q4, show (zmcp I ((i - 1 : Nat) : Int) (30 * line + ((t - 1 : Nat) : Int)) != 0) = true from bne_iff_ne.mpr q5, decide_eq_true (p := 0 < i) (by omega), decide_eq_true (p := 0 < t) (by omega)]; simp)
          have h72 : zW G F2 1 1271 J [(0, .ref (F2.1 110)), (1, .int (zI line)), (2, .ref (F2.1 x)), (3, .int (zI i)), (4, .int (zI t)), (5, .int (zI (zb b0)))] [] 72 := by
            have cell : 0 < i → J x (31 * ((i : Int) - 1) + (t : Int)) = zb (zmR I line (i - 1) t) := fun q1 => by
              rw [← hCe, ← hin (i - 1) t (Or.inl (by omega))]
              congr 1
              omega
            have sl : 0 < i → (i : Int) - 1 = ((i - 1 : Nat) : Int) := fun q1 => by omega
            refine s_X4_fits_72 (v99 := zb (zmcm I (i - 1))) hG hR hE2 hL2 hrJ (by omega) hln hsn (by omega) (by omega) (zb_bd _) hz (fun q1 => ?_) (fun q1 q2 => ?_) (fun q1 q2 q3 => ?_) (fun q1 q2 q3 => ?_) (zb_bd _) (fun q1 q2 q3 q4 => ?_) (fun q1 q2 q3 q4 => ?_)
            · exact h112 true (by rw [zb1_ q1]; rfl)
            · exact h112 false (by rw [zb0 q1, decide_eq_false (by omega)]; rfl)
            · rw [cell (by omega)] at q3
              exact h112 false (by rw [zb0 q1, zb0 q3, Bool.false_and, Bool.and_false]; rfl)
            · rw [sl (by omega)]
              have hc := c_X4_isFree hL2 hrJ (f := 0) (s := ((i - 1 : Nat) : Int)) (by decide) (by omega) (by rw [c3]; exact p4) (by rw [c119]; exact p5)
              rw [c122, c3, c119] at hc
              have e9 : zb (zmcm I (i - 1)) = if zmu (I 122) 0 ((i - 1 : Nat) : Int) (I 110 3).toNat < zbc (I 119 0) then 1 else 0 := zb_d
              rw [e9]
              exact hc
            · rw [cell (by omega)] at q3
              exact h112 false (by rw [zb0 q1, zb0 q4, Bool.and_false, Bool.and_false]; rfl)
            · rw [cell (by omega)] at q3
              exact h112 true (by rw [zb1_ q3, zb1_ q4, decide_eq_true (p := 0 < i) (by omega)]; simp)
          refine s_X4_fits_47 hG hR hE2 hL2 hrJ (by omega) hln hsn p1 (by omega) (by omega) (by omega) (by omega) (fun q => absurd q (by omega)) (fun _ q1 => ?_) (fun _ q1 => ?_)
          · rw [show b0 = false by rw [← hb0]; exact decide_eq_false (by omega)] at h72
            exact h72
          · rw [show b0 = true by rw [← hb0]; exact decide_eq_true (by omega)] at h72
            exact h72
      have := inner (m + 1) 0 (by omega)
      rw [zfl_0] at this
      exact this
  exact outer (n + 1) 0 (by omega)
