theorem ztok (kd : Nat → Int) : ∀ i t : Nat, t < zcnt kd i → 1 ≤ zzn kd i t ∧ zsn kd i t + zzn kd i t ≤ i
  | 0, t, h => absurd h (by simp [zcnt])
  | i + 1, t, h => by
    have ih := ztok kd i t
    simp only [zcnt] at h
    simp only [zsn, zzn]
    by_cases hn : znew kd i = true
    · rw [if_pos hn] at h
      rw [if_pos hn]
      by_cases ht : t = zcnt kd i
      · rw [if_pos (And.intro hn ht), if_pos ht]
        omega
      · rw [if_neg (fun q : znew kd i = true ∧ t = zcnt kd i => ht q.2), if_neg ht]
        have := ih (by omega)
        omega
    · rw [if_neg hn] at h
      rw [if_neg (fun q : znew kd i = true ∧ t = zcnt kd i => hn q.1), if_neg hn]
      have := ih (by omega)
      split <;> omega
/-- the store behind add: the bytes, the size, the tokens, the texts (V), the count -/
def zad1 (I : zStore) (L z : Nat) : zStore := zup (zfl I 5 ((L : Int) * 30) z (fun i => I 1 i)) 3 L z
def zad2 (I : zStore) (L z : Nat) : zStore := zup (zct (zad1 I L z) L z) 4 L (zcnt (zkb (zad1 I L z) L) z)
def zad3 (I : zStore) (L z : Nat) (V : Nat → Int) : zStore := zfl (zad2 I L z) 9 ((L : Int) * 30) (zcnt (zkb (zad1 I L z) L) z) V
def zad (I : zStore) (L z : Nat) (V : Nat → Int) : zStore := zup (zad3 I L z V) 2 0 (L + 1)
theorem zad2_o {I : zStore} {L z c : Nat} {j : Int} (h : c < 3 ∨ 8 < c) : zad2 I L z c j = I c j := by
  unfold zad2 zad1
  rw [zup_k (by omega), zct_o (by omega) (by omega) (by omega), zup_k (by omega), zfl_k (by omega)]
theorem zad2_4 {I : zStore} {L z : Nat} {l : Int} : zad2 I L z 4 l = if l = L then (zcnt (zkb (zad1 I L z) L) z : Int) else I 4 l := by
  unfold zad2
  by_cases h : l = L
  · rw [if_pos h, h, zup_at]
  · rw [if_neg h, zup_i h, zct_o (by decide) (by decide) (by decide)]
    unfold zad1
    rw [zup_k (by decide), zfl_k (by decide)]
theorem zad2_old {I : zStore} {L z c : Nat} {j : Int} (hz : z ≤ 30) (hc : c = 5 ∨ c = 6 ∨ c = 7 ∨ c = 8) (hj : j < (L : Int) * 30 ∨ (L : Int) * 30 + 30 ≤ j) : zad2 I L z c j = I c j := by
  have hcn := zcnt_le (zkb (zad1 I L z) L) z
  unfold zad2
  rw [zup_k (by omega)]
  have e1 : zad1 I L z c j = I c j := by
    unfold zad1
    rw [zup_k (by omega)]
    rcases hc with rfl | hc
    · exact zfl_out (by omega)
    · exact zfl_k (by omega)
  rw [← e1]
  unfold zct
  rcases hc with rfl | rfl | rfl | rfl
  · rw [zfl_k (by decide), zfl_k (by decide), zfl_k (by decide)]
  · rw [zfl_k (by decide), zfl_k (by decide), zfl_out (by omega)]
  · rw [zfl_k (by decide), zfl_out (by omega), zfl_k (by decide)]
  · rw [zfl_out (by omega), zfl_k (by decide), zfl_k (by decide)]
theorem zad2_7 {I : zStore} {L z t : Nat} {j : Int} (ht : t < zcnt (zkb (zad1 I L z) L) z) (hj : j = (L : Int) * 30 + t) : zad2 I L z 7 j = (L : Int) * 30 + zsn (zkb (zad1 I L z) L) z t := by
  unfold zad2
  rw [zup_k (by decide)]
  unfold zct
  rw [zfl_k (by decide), zfl_in ht hj]
theorem zad2_8 {I : zStore} {L z t : Nat} {j : Int} (ht : t < zcnt (zkb (zad1 I L z) L) z) (hj : j = (L : Int) * 30 + t) : zad2 I L z 8 j = zzn (zkb (zad1 I L z) L) z t := by
  unfold zad2
  rw [zup_k (by decide)]
  unfold zct
  rw [zfl_in ht hj]
theorem zad2_6 {I : zStore} {L z t : Nat} {j : Int} (ht : t < zcnt (zkb (zad1 I L z) L) z) (hj : j = (L : Int) * 30 + t) : zad2 I L z 6 j = zkn (zkb (zad1 I L z) L) z t := by
  unfold zad2
  rw [zup_k (by decide)]
  unfold zct
  rw [zfl_k (by decide), zfl_k (by decide), zfl_in ht hj]
theorem zad2_tk {I : zStore} {L z t : Nat} {j : Int} (hL : L < 12) (hz : z ≤ 30) (ht : t < zcnt (zkb (zad1 I L z) L) z) (hj : j = (L : Int) * 30 + t) : zTk (zad2 I L z) j := by
  have h := ztok (zkb (zad1 I L z) L) z t ht
  have hc := zcnt_le (zkb (zad1 I L z) L) z
  have h3 := zsn_bd (zkb (zad1 I L z) L) z t
  refine ⟨by omega, ?_, ?_, ?_, ?_⟩
  · rw [zad2_7 ht hj]; omega
  · rw [zad2_8 ht hj]; omega
  · rw [zad2_8 ht hj]; omega
  · rw [zad2_7 ht hj, zad2_8 ht hj]; omega
set_option maxHeartbeats 4000000 in
theorem c_X2_add {F : zFr} {I : zStore} {L z : Nat} {V : Nat → Int} (hL : zLay F) (hr : zRg I) (hc : I 2 0 = L) (hL12 : L < 12) (hz : z ≤ 30) (hbt : ∀ j : Int, 0 ≤ j → j < z → 0 ≤ I 1 j ∧ I 1 j ≤ 126) (ht : ∀ l : Nat, l < L → 0 ≤ I 4 l ∧ I 4 l ≤ 30 ∧ ∀ t : Nat, (t : Int) < I 4 l → zTk I (l * 30 + t))
    (hV : ∀ t : Nat, t < zcnt (zkb (zad1 I L z) L) z → zfst (zad2 I L z) L ((L : Int) * 30 + t) (V t)) (hVr : ∀ t : Nat, t < zcnt (zkb (zad1 I L z) L) z → 0 ≤ V t ∧ V t < 360) : ∀ (l : Launch) (D : va_G) (cs : Nat → ClassId), l.stackTraces = false → zMt l yX2_add cX2_add 5 (some .int) rm_X2_add D cs F I [.ref (F.1 2), .ref (F.1 1), .int (zI z)] (fun r I' => r = some (.int (zI L)) ∧ I' = zad I L z V) := by
  intro l D cs hst
  refine zMt.ofI hst (by decide +kernel) (Nat.le_of_ble_eq_true rfl) fun G hG hR hE => ?_
  refine s_X2_add_0 hG hR hE hL hr ?_
  rw [hc]
  have hcn := zcnt_le (zkb (zad1 I L z) L) z
  have hr1 : ∀ i : Nat, i ≤ z → zRg (zfl I 5 ((L : Int) * 30) i (fun i => I 1 i)) := fun i hi => zRg_fl hr fun k _ => hr _ _
  have hrA : zRg (zad1 I L z) := zRg_up (hr1 z (Nat.le_refl z)) (by omega)
  have hrB : zRg (zad2 I L z) := zRg_up (zRg_ct hrA (by omega) (by omega)) (by omega)
  have hrC : zRg (zad3 I L z V) := zRg_fl hrB fun k hk => by have := hVr k hk; omega
  have key : ∀ (d i : Nat), i + d = z → zW G F 0 0 (zfl I 5 ((L : Int) * 30) i (fun i => I 1 i)) [(0, .ref (F.1 2)), (1, .ref (F.1 1)), (2, .int (zI z)), (3, .int (zI L)), (4, .int (zI i))] [] 8 := by
    intro d
    induction d with
    | zero =>
      intro i hi
      have e : i = z := by omega
      subst e
      refine s_X2_add_8 (J45 := zad2 I L i) (J50 := zad3 I L i V) hG hR hE hL (hr1 i (Nat.le_refl i)) (by omega) (by omega) (fun j a1 a2 => by rw [zfl_k (by decide)]; exact hbt j a1 a2) (fun _ => ?_) hrB (fun _ => ?_) hrC (fun _ => ?_) (fun h => absurd h (by omega))
      · refine c_X2_cut (I := zad1 I L i) hL hrA (by omega) (zup_at _ _ _ _) hz (fun j a1 a2 => ?_)
        unfold zad1
        rw [zup_k (by decide), zfl_in (m := (j - (L : Int) * 30).toNat) (by omega) (by omega)]
        exact hbt _ (by omega) (by omega)
      · refine c_X2_numberTexts (I := zad2 I L i) hL hrB hL12 (by rw [zad2_4, if_pos rfl]) (fun l hl => ?_) hV hVr
        rw [zad2_4]
        by_cases e : l = L
        · rw [if_pos (by omega)]
          exact ⟨by omega, by omega, fun t h => zad2_tk (t := t) hL12 hz (by omega) (by omega)⟩
        · have hl2 : l < L := by omega
          have := ht l hl2
          rw [if_neg (by omega)]
          refine ⟨this.1, this.2.1, fun t h => ?_⟩
          have hk := this.2.2 t h
          unfold zTk at hk ⊢
          rw [zad2_old hz (by omega) (by omega), zad2_old hz (by omega) (by omega)]
          exact hk
      · refine ⟨rfl, ?_⟩
        have e2 : zad3 I L i V 2 0 = L := by
          unfold zad3
          rw [zfl_k (by decide), zad2_o (by omega)]
          exact hc
        rw [e2]
        rfl
    | succ d ih =>
      intro i hi
      refine s_X2_add_8 (J45 := I) (J50 := I) hG hR hE hL (hr1 i (by omega)) (by omega) (by omega) (fun j a1 a2 => by rw [zfl_k (by decide)]; exact hbt j a1 a2) (fun h => absurd h (by omega)) hr (fun h => absurd h (by omega)) hr (fun h => absurd h (by omega)) (fun _ => ?_)
      rw [zfl_up (by rw [zfl_k (by decide)]) rfl]
      exact ih (i + 1) (by omega)
  have h := key z 0 (by omega)
  rw [zfl_0] at h
  exact h
