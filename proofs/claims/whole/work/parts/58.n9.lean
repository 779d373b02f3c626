/-- behind align and follow; behind mergeInto too -/
def zmal (I : zStore) (f line : Int) (n m : Nat) : zStore := zmF (ztab I 124 m n (zmC I f line)) I f line n m (zmK I f line n m)
def zmaj (I : zStore) (f line : Int) (n m : Nat) : zStore := zmM (zmal I f line n m) f line (zmw I f line n m) (zmP I f line n m) (zmK I f line n m)
section ZMJ
variable {I : zStore} {f line : Int} {n m : Nat}
theorem zmal_sm : zSm I (zmal I f line n m) := zSm.trans zSm.rfl.tab zmF_sm
theorem zmw_012 {k : Nat} (hk : k < zmK I f line n m) : zmw I f line n m k = 0 ∨ zmw I f line n m k = 1 ∨ zmw I f line n m k = 2 := by
  have hp := zlen_pos (s := zms I f) (f := I 110 12) (q := zmq I f line) (n := n) (m := m) (k := k) hk
  exact (zstep_2 (s := zms I f) (f := I 110 12) (q := zmq I f line) hp).2.2.2
theorem zmK_le : zmK I f line n m ≤ n + m := zlen_le
theorem zmK_n : (zmK I f line n m : Int) = n + zfc (zmw I f line n m) (zmK I f line n m) := by
  have h := zpos_i (s := zms I f) (f := I 110 12) (q := zmq I f line) (n := n) (m := m) (zmK I f line n m) (Nat.le_refl _)
  have he := zlen_end (s := zms I f) (f := I 110 12) (q := zmq I f line) (n := n) (m := m)
  have he : zpos (zms I f) (I 110 12) (zmq I f line) n m (zmK I f line n m) = (0, 0) := he
  rw [he] at h
  have h2 : zmw I f line n m = zway (zms I f) (I 110 12) (zmq I f line) n m := rfl
  rw [h2]
  dsimp only at h
  omega
theorem zRg_mtab (hr : zRg I) (hA : zmA I f line n m) : zRg (ztab I 124 m n (zmC I f line)) := zRg_tab hr fun r t _ _ => by
  have h1 := hA.2.2.1
  have h2 := hA.2.2.2.1
  have := zmC_bd hA r t
  omega
theorem zRg_mal (hr : zRg I) (hA : zmA I f line n m) : zRg (zmal I f line n m) := by
  have h1 := hA.2.2.1
  have h2 := hA.2.2.2.1
  have h3 := zmK_le (I := I) (f := f) (line := line) (n := n) (m := m)
  refine zRg_up (zRg_fl (zRg_mtab hr hA) fun x hx => ?_) (by omega)
  have := zmw_012 hx
  omega
theorem zmal_22 : zmal I f line n m 110 22 = zmK I f line n m := by
  unfold zmal zmF
  exact zup_at _ _ _ _
theorem zmal_w {k : Nat} (hk : k < zmK I f line n m) : zmal I f line n m 125 k = zmw I f line n m k := by
  unfold zmal zmF
  rw [zup_k (by decide), zfl_in hk (by omega)]
theorem zmG_of (hA : zmA I f line n m) (hK : zmK I f line n m ≤ 40) : zmG (zmal I f line n m) f line (zmw I f line n m) (zmP I f line n m) (zmK I f line n m) := by
  obtain ⟨h1, h2, h3, h4, h5, h6, h7, h8, h9, h10, h11⟩ := id hA
  have hle : ∀ k, k ≤ zmK I f line n m → (zmP I f line n m k).1 + (zmP I f line n m k).2 + k ≤ n + m ∧ (zmP I f line n m k).1 ≤ n ∧ (zmP I f line n m k).2 ≤ m := fun k hk => zpos_le (s := zms I f) (f := I 110 12) (q := zmq I f line) (n := n) (m := m) k hk
  have hst : ∀ k, k < zmK I f line n m → (zmP I f line n m k).1 = (zmP I f line n m (k + 1)).1 + (if zmw I f line n m k = 2 then 0 else 1) ∧ (zmP I f line n m k).2 = (zmP I f line n m (k + 1)).2 + (if zmw I f line n m k = 1 then 0 else 1) := fun k hk => by
    have hp := zlen_pos (s := zms I f) (f := I 110 12) (q := zmq I f line) (n := n) (m := m) (k := k) hk
    have hz := zstep_2 (s := zms I f) (f := I 110 12) (q := zmq I f line) hp
    have hP1 : zmP I f line n m (k + 1) = (if zmw I f line n m k = 2 then (zmP I f line n m k).1 else (zmP I f line n m k).1 - 1, if zmw I f line n m k = 1 then (zmP I f line n m k).2 else (zmP I f line n m k).2 - 1) := rfl
    have hw : zmw I f line n m k = zstep (zms I f) (I 110 12) (zmq I f line) (zmP I f line n m k).1 (zmP I f line n m k).2 := rfl
    have hz2 : (zmw I f line n m k ≠ 2 → 0 < (zmP I f line n m k).1) ∧ (zmw I f line n m k ≠ 1 → 0 < (zmP I f line n m k).2) := ⟨fun q => hz.2.1 q, fun q => hz.2.2.1 q⟩
    rw [hP1]
    constructor
    · dsimp only
      split
      · rfl
      · have := hz2.1 (by assumption)
        omega
    · dsimp only
      split
      · rfl
      · have := hz2.2 (by assumption)
        omega
  refine ⟨h1, h2, ⟨zmal_22, hK⟩, fun k hk => ⟨zmal_w hk, zmw_012 hk⟩, ?_, hst, fun k hk => ?_, fun k hk hw hx => ?_, fun k hk hw => ?_⟩
  · exact zlen_end (s := zms I f) (f := I 110 12) (q := zmq I f line) (n := n) (m := m)
  · have := hle k hk
    omega
  · have a1 := hst k hk
    have a2 := hle k (by omega)
    rw [if_neg (by omega)] at a1
    rw [zmal_sm.o (c := 121) (by decide) (by decide)] at hx ⊢
    exact zmT_s zmal_sm (h10 _ (by omega) hx)
  · have a1 := hst k hk
    have a2 := hle k (by omega)
    rw [if_neg hw] at a1
    exact zmT_s zmal_sm (h11 _ (by omega))
theorem zRg_mM {T : zStore} {w : Nat → Int} {P : Nat → Nat × Nat} {K : Nat} (hr : zRg T) (hG : zmG T f line w P K) : zRg (zmM T f line w P K) := zRg_up (zRg_up (zmO_rg hr hG K) (by have := hG.2.2.1; omega)) (zor_rg _ _)
theorem zRg_maj (hr : zRg I) (hA : zmA I f line n m) (hK : zmK I f line n m ≤ 40) : zRg (zmaj I f line n m) := zRg_mM (zRg_mal hr hA) (zmG_of hA hK)
theorem c_alfo {F : zFr} (hL : zLayM F) (hr : zRg I) (hA : zmA I f line n m) : ∀ (l : Launch) (D : va_G) (cs : Nat → ClassId), l.stackTraces = false → zMt l yX4_follow cX4_follow 6 none rm_X4_follow D cs F (ztab I 124 m n (zmC I f line)) [.ref (F.1 110), .int (zI f), .int (zI line)] (fun r I' => r = none ∧ I' = zmal I f line n m) :=
  c_X4_follow hL (zRg_mtab hr hA) hA zSm.rfl.tab fun i t hi ht => ztab_in hi ht hA.2.2.2.1.2 rfl
theorem c_alfr {F : zFr} (hL : zLayM F) (hr : zRg I) (hA : zmA I f line n m) : ∀ (l : Launch) (D : va_G) (cs : Nat → ClassId), l.stackTraces = false → zMt l yX4_freshSteps cX4_freshSteps 3 (some .int) rm_X4_freshSteps D cs F (zmal I f line n m) [.ref (F.1 110)] (fun r I' => r = some (.int (zI ((zmK I f line n m : Int) - n))) ∧ I' = zmal I f line n m) := by
  have h := zmK_n (I := I) (f := f) (line := line) (n := n) (m := m)
  have h1 := hA.2.2.1
  have h2 := hA.2.2.2.1
  have h3 := zmK_le (I := I) (f := f) (line := line) (n := n) (m := m)
  rw [show (zmK I f line n m : Int) - n = zfc (zmw I f line n m) (zmK I f line n m) by omega]
  exact c_X4_freshSteps hL (zRg_mal hr hA) zmal_22 (by omega) fun k hk => zmal_w hk
theorem zmA_t {v : Int} (hA : zmA I f line n m) : zmA (zup I 110 0 v) f line n m := hA
theorem zmC_t' {v : Int} : zmC (zup I 110 0 v) f line = zmC I f line := rfl
theorem zmK_t {v : Int} : zmK (zup I 110 0 v) f line n m = zmK I f line n m := rfl
end ZMJ
section ZMMG
variable {F : zFr} {I : zStore} {line : Int} {n m : Nat}
theorem c_X4_merge_bad (hL : zLayM F) (hr : zRg I) (hl : -2147483648 ≤ line ∧ line < 2147483648) (hk : 0 ≤ I 119 0 ∧ I 119 0 < 4096) (hb : ¬ (0 ≤ line ∧ line < I 110 3)) : ∀ (l : Launch) (D : va_G) (cs : Nat → ClassId), l.stackTraces = false → zMt l yX4_merge cX4_merge 3 (some .int) rm_X4_merge D cs F I [.ref (F.1 110), .int (zI line)] (fun r I' => r = some (.int (zI 0)) ∧ I' = zup I 110 0 1) := by
  intro l D cs hst
  refine zMt.ofI hst (by decide +kernel) (Nat.le_of_ble_eq_true rfl) fun G hG hR hE => ?_
  exact s_X4_merge_0 (J42 := I) (v42 := 0) (J49 := I) hG hR hE hL hr hl hk (fun q => absurd q hb) hr (by decide) (fun q => absurd q hb) hr (fun q => absurd q hb) (fun q => absurd q hb) (fun _ => ⟨rfl, zup_up _ _ _ _ _⟩)
theorem c_X4_merge_two (hL : zLayM F) (hr : zRg I) (hl : -2147483648 ≤ line ∧ line < 2147483648) (hk : 0 ≤ I 119 0 ∧ I 119 0 < 4096) (hb : 0 ≤ line ∧ line < I 110 3) (hm : zand (zshr (I 119 0) line) 1 = 1) : ∀ (l : Launch) (D : va_G) (cs : Nat → ClassId), l.stackTraces = false → zMt l yX4_merge cX4_merge 3 (some .int) rm_X4_merge D cs F I [.ref (F.1 110), .int (zI line)] (fun r I' => r = some (.int (zI 0)) ∧ I' = zup I 110 0 2) := by
  intro l D cs hst
  refine zMt.ofI hst (by decide +kernel) (Nat.le_of_ble_eq_true rfl) fun G hG hR hE => ?_
  exact s_X4_merge_0 (J42 := I) (v42 := 0) (J49 := I) hG hR hE hL hr hl hk (fun _ q => absurd hm q) hr (by decide) (fun _ q => absurd hm q) hr (fun _ q => absurd hm q) (fun _ _ => ⟨rfl, zup_up _ _ _ _ _⟩) (fun q => absurd hb q)
theorem zmrg_cont (hA : zmA I 0 line n m) : 0 ≤ zmC I 0 line n m ∧ zmC I 0 line n m < 2147483648 := by
  have h1 := hA.2.2.1
  have h2 := hA.2.2.2.1
  have := zmC_bd hA n m
  omega
theorem c_X4_merge_ok (hL : zLayM F) (hr : zRg I) (hl : -2147483648 ≤ line ∧ line < 2147483648) (hk : 0 ≤ I 119 0 ∧ I 119 0 < 4096) (hb : 0 ≤ line ∧ line < I 110 3) (hm : zand (zshr (I 119 0) line) 1 ≠ 1) (hA : zmA I 0 line n m) (hK : zmK I 0 line n m ≤ 40) : ∀ (l : Launch) (D : va_G) (cs : Nat → ClassId), l.stackTraces = false → zMt l yX4_merge cX4_merge 3 (some .int) rm_X4_merge D cs F I [.ref (F.1 110), .int (zI line)] (fun r I' => r = some (.int (zI (zmC I 0 line n m))) ∧ I' = zmaj (zup I 110 0 0) 0 line n m) := by
  intro l D cs hst
  refine zMt.ofI hst (by decide +kernel) (Nat.le_of_ble_eq_true rfl) fun G hG hR hE => ?_
  have hr0 : zRg (zup I 110 0 0) := zRg_up hr (by decide)
  have hA0 := zmA_t (v := 0) hA
  have h1 := hA.2.2.1
  have h2 := hA.2.2.2.1
  have h3 := zmK_le (I := I) (f := 0) (line := line) (n := n) (m := m)
  have h4 := zmK_n (I := I) (f := 0) (line := line) (n := n) (m := m)
  have h5 := zfc_bd (zmw I 0 line n m) (zmK I 0 line n m)
  have h6 := zmrg_cont hA
  have hcm := zmC_t' (I := I) (f := 0) (line := line) (v := 0)
  refine s_X4_merge_0 (J42 := ztab (zup I 110 0 0) 124 m n (zmC I 0 line)) (v42 := zmC I 0 line n m) (J49 := zmal (zup I 110 0 0) 0 line n m) hG hR hE hL hr hl hk (fun _ _ => c_X4_align hL hr0 hA0) (zRg_mtab hr0 hA0) (by omega) (fun _ _ => c_alfo hL hr0 hA0) (zRg_mal hr0 hA0) (fun _ _ => ?_) (fun _ q => absurd q hm) (fun q => absurd hb q)
  have e1 : zmal (zup I 110 0 0) 0 line n m 118 0 = n := by
    rw [zmal_sm.o (c := 118) (by decide) (by decide)]
    exact h1.1
  exact s_X4_merge_52 (v59 := (zmK I 0 line n m : Int) - n) (J77 := zmaj (zup I 110 0 0) 0 line n m) hG hR hE hL (zRg_mal hr0 hA0) (by omega) (c_alfr hL hr0 hA0) (by omega) (fun _ => c_X4_mergeInto hL (zRg_mal hr0 hA0) (zmG_of hA0 hK)) (zRg_maj hr0 hA0 hK) (fun _ => ⟨rfl, rfl⟩) (fun q => absurd q (by omega))
theorem c_X4_merge_full (hL : zLayM F) (hr : zRg I) (hl : -2147483648 ≤ line ∧ line < 2147483648) (hk : 0 ≤ I 119 0 ∧ I 119 0 < 4096) (hb : 0 ≤ line ∧ line < I 110 3) (hm : zand (zshr (I 119 0) line) 1 ≠ 1) (hA : zmA I 0 line n m) (hK : 40 < zmK I 0 line n m) : ∀ (l : Launch) (D : va_G) (cs : Nat → ClassId), l.stackTraces = false → zMt l yX4_merge cX4_merge 3 (some .int) rm_X4_merge D cs F I [.ref (F.1 110), .int (zI line)] (fun r I' => r = some (.int (zI 0)) ∧ I' = zup (zmal (zup I 110 0 0) 0 line n m) 110 0 2) := by
  intro l D cs hst
  refine zMt.ofI hst (by decide +kernel) (Nat.le_of_ble_eq_true rfl) fun G hG hR hE => ?_
  have hr0 : zRg (zup I 110 0 0) := zRg_up hr (by decide)
  have hA0 := zmA_t (v := 0) hA
  have h1 := hA.2.2.1
  have h2 := hA.2.2.2.1
  have h3 := zmK_le (I := I) (f := 0) (line := line) (n := n) (m := m)
  have h4 := zmK_n (I := I) (f := 0) (line := line) (n := n) (m := m)
  have h5 := zfc_bd (zmw I 0 line n m) (zmK I 0 line n m)
  have h6 := zmrg_cont hA
  refine s_X4_merge_0 (J42 := ztab (zup I 110 0 0) 124 m n (zmC I 0 line)) (v42 := zmC I 0 line n m) (J49 := zmal (zup I 110 0 0) 0 line n m) hG hR hE hL hr hl hk (fun _ _ => c_X4_align hL hr0 hA0) (zRg_mtab hr0 hA0) (by omega) (fun _ _ => c_alfo hL hr0 hA0) (zRg_mal hr0 hA0) (fun _ _ => ?_) (fun _ q => absurd q hm) (fun q => absurd hb q)
  have e1 : zmal (zup I 110 0 0) 0 line n m 118 0 = n := by
    rw [zmal_sm.o (c := 118) (by decide) (by decide)]
    exact h1.1
  exact s_X4_merge_52 (v59 := (zmK I 0 line n m : Int) - n) (J77 := I) hG hR hE hL (zRg_mal hr0 hA0) (by omega) (c_alfr hL hr0 hA0) (by omega) (fun q => absurd q (by omega)) hr (fun q => absurd q (by omega)) (fun _ => ⟨rfl, rfl⟩)
end ZMMG
