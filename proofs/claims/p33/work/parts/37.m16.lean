section ZAE
variable {I : zStore} {b : Nat} {line : Int} {n m : Nat}
theorem zAe_o {c : Nat} {j : Int} (h1 : c ≠ 11) (h2 : c ≠ 12) (h3 : c ≠ 10) : zAe I b line n m c j = I c j := by
  unfold zAe
  rw [zup_k h3, zAs_o h1 h2 (Or.inl h3)]
theorem zAe_7 : zAe I b line n m 10 7 = zfc (zw_ I b line n m) (zK I b line n m) := by
  unfold zAe
  rw [zup_i (by decide), zAs_7]
theorem zK_le (hA : zAl I b line n m) : zK I b line n m ≤ 70 := by
  have h := zlen_le (s := zs_ I b) (f := I 10 3) (q := zq_ I b line) (n := n) (m := m)
  have h2 := hA.2.2.1
  have h3 := hA.2.2.2.2.1
  unfold zK
  omega
theorem zK_n : (zK I b line n m : Int) = n + zfc (zw_ I b line n m) (zK I b line n m) := by
  have h := zpos_i (s := zs_ I b) (f := I 10 3) (q := zq_ I b line) (n := n) (m := m) (zK I b line n m) (Nat.le_refl _)
  have he : zpos (zs_ I b) (I 10 3) (zq_ I b line) n m (zK I b line n m) = (0, 0) := zlen_end
  rw [he] at h
  dsimp only at h
  unfold zw_
  have h2 : zfc (fun k => zway (zs_ I b) (I 10 3) (zq_ I b line) n m k) (zK I b line n m) = zfc (zway (zs_ I b) (I 10 3) (zq_ I b line) n m) (zK I b line n m) := rfl
  omega
theorem zRg_Ae (hA : zAl I b line n m) (hr : zRg I) : zRg (zAe I b line n m) := by
  have h := zK_le hA
  unfold zAe
  exact zRg_up (zRg_As hA hr (by omega)) (by omega)
end ZAE
theorem zRg_je {T : zStore} {b : Nat} {line : Int} {w : Nat → Int} {P : Nat → Nat × Nat} {K n : Nat} (hb : 15 ≤ b) (hr : zRg T) (h : zJo T b w P K n) (hn : n ≤ 40) (hj : 0 ≤ T b 1 ∧ T b 1 ≤ 12) : zRg (zje T b line w P K) := by
  unfold zje
  exact zRg_up (zjJ_rg hb hr h hn K (Nat.le_refl _)) (by omega)
theorem zje_o {T : zStore} {b c : Nat} {line : Int} {w : Nat → Int} {P : Nat → Nat × Nat} {K : Nat} {j : Int} (h : c < b ∨ b + 6 < c) (h2 : c ≠ 13) : zje T b line w P K c j = T c j := by
  unfold zje
  rw [zup_k (by omega), zjJ_o h h2]
/-- the store behind align and join -/
def zaj (I : zStore) (b : Nat) (line : Int) (n m : Nat) : zStore := zje (zAe I b line n m) b line (zw_ I b line n m) (zP_ I b line n m) (zK I b line n m)
/-- the store behind merge -/
def zmg (I : zStore) (line : Int) (n m : Nat) : zStore := zup (zfl (zaj I 15 line n m) 23 (line * 30) m (fun t => zaj I 15 line n m 13 t)) 22 line 1
/-- the format can be joined with -/
def zFo (I : zStore) (b : Nat) (n : Nat) : Prop := (∀ i : Nat, i < n → 0 ≤ I (b + 1) i ∧ I (b + 1) i < n) ∧ (∀ id : Int, 0 ≤ id → id < n → 0 ≤ I (b + 6) id ∧ I (b + 6) id ≤ 12) ∧ 0 ≤ I b 1 ∧ I b 1 ≤ 12
theorem zRg_aj {I : zStore} {b : Nat} {line : Int} {n m : Nat} (hb : 15 ≤ b) (hr : zRg I) (hA : zAl I b line n m) (hF : zFo I b n) (hK : zK I b line n m ≤ 40) : zRg (zaj I b line n m) :=
  zRg_je hb (zRg_Ae hA hr) (zJo_of hb hA hK hF.1 hF.2.1 hF.2.2) hA.2.2.1 (by rw [zAe_o (by omega) (by omega) (by omega)]; exact hF.2.2)
set_option maxHeartbeats 4000000 in
theorem c_X3_merge {F : zFr} {I : zStore} {line : Int} {n m : Nat} (hL : zLay F) (hr : zRg I) (hl : -2147483648 ≤ line ∧ line < 2147483648) (hn : 0 ≤ I 2 0 ∧ I 2 0 ≤ 12) (hm : ∀ l : Int, 0 ≤ l → l < I 2 0 → 0 ≤ I 22 l ∧ I 22 l ≤ 1) (hn0 : I 15 0 = n) (hn2 : n ≤ 40) (hA : 0 ≤ line → line < I 2 0 → zAl I 15 line n m) (hF : zFo I 15 n) : ∀ (l : Launch) (D : va_G) (cs : Nat → ClassId), l.stackTraces = false → zMx l yX3_merge cX3_merge 5 (some .int) rm_X3_merge D cs F I [.ref (F.1 0), .int (zI line)] (fun r I' => ((0 ≤ line ∧ line < I 2 0) ∧ I 22 line = 0 ∧ zK I 15 line n m ≤ 40) ∧ r = some (.int (zI (zCC I 15 line n m))) ∧ I' = zmg I line n m) (fun E I' => (E = "java/lang/IndexOutOfBoundsException" ∧ ¬ (0 ≤ line ∧ line < I 2 0) ∧ I' = I) ∨ (E = "java/lang/IllegalStateException" ∧ (0 ≤ line ∧ line < I 2 0) ∧ I 22 line ≠ 0 ∧ I' = I) ∨ (E = "java/lang/IllegalStateException" ∧ (0 ≤ line ∧ line < I 2 0) ∧ I 22 line = 0 ∧ ¬ (zK I 15 line n m ≤ 40) ∧ I' = zAe I 15 line n m)) := by
  intro l D cs hst
  refine zMx.ofI hst (by decide +kernel) rfl (Nat.le_of_ble_eq_true rfl) fun G hG hR hE hT => ?_
  by_cases q : ¬ (0 ≤ line ∧ line < I 2 0)
  · exact s_X3_merge_0 (J33 := zup (zup I 15 0 0) 10 7 0) (v33 := 0) (J70 := I) hG hR hE hT hL hr hl hn (fun _ => hm line) (by rw [zup_k (by decide), zup_at]; decide) (by rw [zup_at]; decide) (fun e => Or.inl ⟨rfl, e, rfl⟩) (fun e => absurd e q) (zRg_up (zRg_up hr (by decide)) (by decide)) (by omega) (fun e => absurd e q) hr (fun e => absurd e q) (fun e => absurd e q) (fun e => absurd e q)
  replace q := Decidable.not_not.mp q
  have hA' := hA q.1 q.2
  have hm2 := hA'.2.2.2.2.1
  have hb := zCC_bd hA' n m
  have hKn := zK_n (I := I) (b := 15) (line := line) (n := n) (m := m)
  have hKl := zK_le hA'
  have e0 : zAe I 15 line n m 15 0 = n := by rw [zAe_o (by decide) (by decide) (by decide)]; exact hn0
  have e7 := zAe_7 (I := I) (b := 15) (line := line) (n := n) (m := m)
  have hz := zfc_bd (zw_ I 15 line n m) (zK I 15 line n m)
  have hrA := zRg_Ae hA' hr
  by_cases hK : ¬ (zK I 15 line n m ≤ 40)
  · exact s_X3_merge_0 (J33 := zAe I 15 line n m) (v33 := zCC I 15 line n m) (J70 := I) hG hR hE hT hL hr hl hn (fun _ => hm line) (by omega) (by omega) (fun e => absurd q e) (fun _ _ => c_X0_align hL hr (zFm.at hL) hA') hrA (by omega) (fun _ _ e => absurd e (by omega)) hr (fun _ _ e => absurd e (by omega)) (fun _ e _ => Or.inr (Or.inr ⟨rfl, q, e, hK, rfl⟩)) (fun _ e => Or.inr (Or.inl ⟨rfl, q, e, rfl⟩))
  replace hK := Decidable.not_not.mp hK
  have hJ := zJo_of (by decide) hA' hK hF.1 hF.2.1 hF.2.2
  have hrJ := zRg_aj (by decide) hr hA' hF hK
  have e4 : zaj I 15 line n m 4 line = m := by
    unfold zaj
    rw [zje_o (by decide) (by decide), zAe_o (by decide) (by decide) (by decide)]
    exact hA'.2.2.2.1
  have hj : zAe I 15 line n m 4 line = m := by
    rw [zAe_o (by decide) (by decide) (by decide)]
    exact hA'.2.2.2.1
  refine s_X3_merge_0 (J33 := zAe I 15 line n m) (v33 := zCC I 15 line n m) (J70 := zaj I 15 line n m) hG hR hE hT hL hr hl hn (fun _ => hm line) (by omega) (by omega) (fun e => absurd q e) (fun _ _ => c_X0_align hL hr (zFm.at hL) hA') hrA (by omega) (fun _ _ _ => c_X0_join hL hrA (zFm.at hL) hA'.1 hn2 hJ hj rfl e7) hrJ (fun _ e _ => ?_) (fun _ _ e => absurd (show zAe I 15 line n m 15 0 + zAe I 15 line n m 10 7 ≤ 40 by omega) e) (fun _ e => Or.inr (Or.inl ⟨rfl, q, e, rfl⟩))
  rw [e4]
  generalize hT1 : zaj I 15 line n m = T at *
  have hmg : zmg I line n m = zup (zfl T 23 (line * 30) m (fun t => T 13 t)) 22 line 1 := by
    unfold zmg
    rw [hT1]
  have hrf : ∀ t : Nat, zRg (zfl T 23 (line * 30) t (fun t => T 13 t)) := fun t => zRg_fl hrJ fun k _ => hrJ _ _
  have key : ∀ (d t : Nat), t + d = m → zW G F 1 6 (zfl T 23 (line * 30) t (fun t => T 13 t)) [(0, .ref (F.1 0)), (1, .int (zI line)), (2, .int (zI (zCC I 15 line n m))), (3, .int (zI m)), (4, .int (zI t))] [] 86 := by
    intro d
    induction d with
    | zero =>
      intro t ht
      have e2 : t = m := by omega
      subst e2
      exact s_X3_merge_86 hG hR hE hT hL (hrf t) (by omega) (by omega) (by omega) (fun _ => ⟨⟨q, e, hK⟩, rfl, hmg.symm⟩) (fun h => absurd h (by omega))
    | succ d ih =>
      intro t ht
      have h := ih (t + 1) (by omega)
      rw [← zfl_up (v := zfl T 23 (line * 30) t (fun t => T 13 t) 13 t) (i := (line * 30) + t) (zfl_k (by decide)) rfl] at h
      exact s_X3_merge_86 hG hR hE hT hL (hrf t) (by omega) (by omega) (by omega) (fun h => absurd h (by omega)) (fun _ => h)
  have h0 := key m 0 (by omega)
  rw [zfl_0] at h0
  exact h0
