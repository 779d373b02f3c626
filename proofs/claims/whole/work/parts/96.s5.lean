/-! the last steps: store, group -/
theorem c_X3_store2 {F : zFr} {I : zStore} {L z : Nat} {V : Nat → Int} (hL : zLay F) (hr : zRg I) (hc : I 2 0 = L) (hL2 : L ≤ 12) (hz0 : I 0 1 = z) (hz : z ≤ 30) (hbt : ∀ j : Int, 0 ≤ j → j < z → 0 ≤ I 1 j ∧ I 1 j ≤ 126) (ht : ∀ l : Nat, l < L → 0 ≤ I 4 l ∧ I 4 l ≤ 30 ∧ ∀ t : Nat, (t : Int) < I 4 l → zTk I (l * 30 + t))
    (hV : L < 12 → ∀ t : Nat, t < zcnt (zkb (zad1 I L z) L) z → zfst (zad2 I L z) L ((L : Int) * 30 + t) (V t) ∧ 0 ≤ V t ∧ V t < 360) : ∀ (l : Launch) (D : va_G) (cs : Nat → ClassId), l.stackTraces = false → zMx l yX3_store cX3_store 2 (some .int) rm_X3_store D cs F I [.ref (F.1 0)] (fun r I' => L < 12 ∧ r = some (.int (zI L)) ∧ I' = zsto I L z V) (fun E I' => I' = I ∧ (E = "java/lang/IllegalStateException" ∧ ¬ L < 12)) := by
  by_cases q : L < 12
  · exact c_X3_store hL hr hc hL2 hz0 hz hbt ht (fun t h => (hV q t h).1) (fun t h => (hV q t h).2)
  · intro l D cs hst
    refine zMx.ofI hst (by decide +kernel) rfl (Nat.le_of_ble_eq_true rfl) fun G hG hR hE hT => ?_
    exact s_X3_store_0 (v34 := 0) (J34 := I) hG hR hE hT hL hr (by omega) (by omega) (fun e => absurd e (by omega)) hr (by omega) (fun e => absurd e (by omega)) (fun _ => ⟨rfl, rfl, q⟩)
theorem zmsto_00 {B : zStore} {N z : Nat} : zmsto B N z 110 0 = 0 := by
  unfold zmsto zmsU
  rw [zup_i (by decide), zup_i (by decide), zup_i (by decide), zup_k (by decide), zmtk_o (by decide) (by decide) (by decide)]
  unfold zmsX
  rw [zfl_k (by decide), zup_k (by decide), zup_at]
theorem st_store : zStp 260 := by
  intro G F I cells slots b L xs i rmG hG hS0 hR hfr hlo hce hsl hL hL2 hi N n hWf hr h kk
  obtain ⟨z, hz⟩ : ∃ z : Nat, I 0 1 = z := ⟨(I 0 1).toNat, by have := h.2.1.1; omega⟩
  have bu := h.2.1.1
  obtain ⟨V, hV⟩ : ∃ V : Nat → Int, N < 12 → ∀ t : Nat, t < zcnt (zkb (zad1 I N z) N) z → zfst (zad2 I N z) N ((N : Int) * 30 + t) (V t) ∧ 0 ≤ V t ∧ V t < 360 := by
    by_cases q : N < 12
    · obtain ⟨V, hV⟩ := r_V h q hz
      exact ⟨V, fun _ => hV⟩
    · exact ⟨fun _ => 0, fun a => absurd a q⟩
  refine w_L_store (Inv := zInv) hG hS0 hR hfr hlo hce hsl hL hL2 hi (c_L_store hL (c_X3_store2 (V := V) hL.m.c hr h.1.1.1 h.1.1.2.2 hz (by omega) (fun j a b => (h.2.1.2 j a (by omega)).1) (p_st h) hV) (fun r I' q => ?_) (fun E I' q => ?_)) (fun K a b => z_widen (by omega) (by omega) hR (by omega) (by omega) (kk K a b))
  · clear kk hce hsl
    have N12 := h.1.1
    have hw : zRn (N : Int) := by omega
    refine ⟨_, q.2.1, hw, ?_⟩
    obtain ⟨c, -, hI⟩ := q
    have hr1 : zRg I' := by
      rw [hI]
      exact zRg_up (zRg_up (zRg_ad hr c (by omega) (fun t ht => (hV c t ht).2)) (by decide)) (by decide)
    have hr2 := zRg_up (k := 129) (i := 0) (v := (N : Int)) hr1 hw
    have h1 : rR I (zup I' 129 0 N) N n := rR_c rEA.rfl (rEB_of fun c c1 c9 => by
      rw [z129c (by omega), hI]
      exact zsto_big (by omega)) h
    have h2 := r_store (V := V) h1 c hz (fun t ht => (hV c t ht).1)
    have n12 : ¬ N = 12 := by omega
    refine zPsI (c_X4_store (L := N) (z := z) hL.m hr2 h1.1.1.2.1 (by omega) (h1.2.1.1.2.2.trans hz) (by omega) (fun j a b => by
      have := h1.2.1.2 j a (by omega)
      omega)) ?_ hw (fun q => nomatch q) ?_ ?_ ?_ ?_
    · rw [if_neg n12]
    · rw [if_neg n12, zmsto_00]
    · intro _
      rw [if_neg n12, zmsto_o (by decide), zup_at]
    · rw [if_neg n12]
      exact zRg_up (zRg_up (zRg_up (zmsU_rg hr2 (by omega) (by omega)) (by decide)) (by omega)) (by decide)
    · rw [if_neg n12]
      refine ⟨N + 1, n, rR_c ?_ rEB.rfl h2⟩
      have o : ∀ c : Nat, c < 110 → zmsto (zup I' 129 0 N) N z c = zsto I N z V c := fun c c1 => by
        rw [zmsto_o (by omega), z129c (by omega), hI]
      exact rEA_of (fun c c1 _ _ _ _ _ => o c c1) (fun j _ _ => by rw [o 10 (by decide)])
  · clear kk hce hsl
    obtain ⟨rfl, rfl, c⟩ := q
    have N12 := h.1.1
    have n12 : N = 12 := by omega
    refine ⟨rfl, zPsI (c_X4_store (L := N) (z := z) hL.m hr h.1.1.2.1 (by omega) (bu.2.2.trans hz) (by omega) (fun j a b => by
      have := h.2.1.2 j a (by omega)
      omega)) (if_pos n12) (by decide) (fun q => nomatch q) ?_ (fun q => nomatch q) ?_ ?_⟩
    · rw [if_pos n12, zup_at]
    · rw [if_pos n12]
      exact zRg_up hr (by decide)
    · rw [if_pos n12]
      exact ⟨N, n, i_110 h 1⟩
theorem zgp_hi {I : zStore} {limit : Int} (hl : 0 ≤ limit ∧ limit ≤ 200) {c : Nat} (hc : 110 ≤ c) : ∀ l : Nat, (∀ x : Nat, x < l → zGl (zgp I limit x) limit x) → ∀ j : Int, zgp I limit l c j = I c j
  | 0, _, j => zup_k (by omega)
  | l + 1, h, j => by
    have ih := zgp_hi (I := I) hl hc l (fun x hx => h x (by omega)) j
    have g := zgh_lt hl (h l (by omega))
    rw [← ih]
    show zup (zaj (zgc (zgp I limit l) limit l) (26 + 7 * zgh (zgp I limit l) limit l) l _ _) 24 l _ c j = _
    rw [zup_k (by omega), zaj_o (by omega) (by omega) (by omega) (by omega) (by omega)]
    unfold zgc
    split
    · rw [zup_k (by omega), zup_k (by omega), zup_k (by omega)]
      exact (zns_s _).o (by omega) (by omega) (by omega)
    · exact (zns_s _).o (by omega) (by omega) (by omega)
theorem zmaj_lo {B : zStore} {f : Int} {l n m c : Nat} {j : Int} (hc : c < 110 ∨ c = 129 ∨ (c = 110 ∧ j = 0)) : zmaj B f (l : Int) n m c j = B c j := by
  rcases hc with q | q | ⟨q, q2⟩
  · exact zmaj_o (by omega) (by omega) (by omega) (by omega) (by omega) (by omega) (Or.inl (by omega))
  · subst q
    exact zmaj_129
  · subst q
    subst q2
    exact zmaj_o (by decide) (by decide) (by decide) (by decide) (by decide) (by decide) (Or.inr (by decide))
theorem zmgc_lo {S : zStore} {limit : Int} {l c : Nat} {j : Int} (hc : c < 110 ∨ c = 129 ∨ (c = 110 ∧ j = 0)) : zmgc S limit l c j = S c j := by
  have e2 : zmgn S l c j = S c j := zmgn_s c j (by omega) (by omega) (by omega) (by omega) (by omega) (by omega)
  unfold zmgc
  split
  · by_cases e : c = 110
    · have hj : j = 0 := by omega
      subst e
      subst hj
      rw [zup_i (by decide), zup_k (by decide), zup_k (by decide)]
      exact e2
    · rw [zup_k e, zup_k (by omega), zup_k (by omega)]
      exact e2
  · exact e2
theorem zmgt_lo {S : zStore} {limit : Int} {l c : Nat} {j : Int} (hc : c < 110 ∨ c = 129 ∨ (c = 110 ∧ j = 0)) : zmgt S limit l c j = S c j := by
  unfold zmgt
  rw [zup_k (by omega), zmaj_lo hc]
  exact zmgc_lo hc
theorem zmgp_lo {I : zStore} {limit : Int} {c : Nat} {j : Int} (hc : c < 110 ∨ c = 129 ∨ (c = 110 ∧ j = 0)) : ∀ l : Nat, zmgp I limit l c j = zup I 110 0 0 c j
  | 0 => by
    have e : zmgp I limit 0 = zup (zup I 110 0 0) 110 19 0 := rfl
    rw [e]
    by_cases e : c = 110
    · subst e
      exact zup_i (by omega)
    · exact zup_k e
  | l + 1 => by
    have e : zmgp I limit (l + 1) = zmgt (zmgp I limit l) limit l := rfl
    rw [e, zmgt_lo hc]
    exact zmgp_lo hc l
set_option maxHeartbeats 4000000 in
theorem st_group : zStp 1577 := by
  intro G F I cells slots b L xs i rmG hG hS0 hR hfr hlo hce hsl hL hL2 hi N n hWf hr h kk
  have hlimit := zsc_rg xs (i + 1)
  refine w_L_group (Inv := zInv) hG hS0 hR hfr hlo hce hsl hL hL2 hi (c_L_group hL (c_X3_group hL.m.c hr hlimit h.1.1.2.2 (p_gp h).1 (fun _ _ => (p_gp h).2.2.1)) (fun r I' q => ?_) (fun E I' q => ?_)) (fun K a b => z_widen (by omega) (by omega) hR (by omega) (by omega) (kk K a b))
  · clear kk hce hsl
    generalize zsc xs (i + 1) = limit at *
    have P := p_gp (limit := limit) h
    have N12 := h.1.1
    refine ⟨_, q.2.1, zgp_rg q.1 hr N P.2.2.1 _ _, ?_⟩
    obtain ⟨c, -, hI⟩ := q
    have hw : zRn (zgp I limit N 0 8) := zgp_rg c hr N P.2.2.1 _ _
    have hr1 : zRg I' := by
      rw [hI]
      exact zRg_up (zgp_rg c hr N P.2.2.1) (by decide)
    generalize hv : zgp I limit N 0 8 = v at *
    have hr2 := zRg_up (k := 129) (i := 0) (v := v) hr1 hw
    have h1 : rR I (zup I' 129 0 v) N n := rR_c rEA.rfl (rEB_of fun c2 c1 c9 => by
      rw [z129c (by omega), hI, zup_c (by omega)]
      exact funext fun j => zgp_hi c c1 N P.2.2.1 j) h
    have P1 := p_gp (limit := limit) h1
    obtain ⟨h2, e8⟩ := r_group (limit := limit) h1
    refine zPsI (c_X4_group (N := N) hL.m hr2 c (by omega) P1.2.1 P1.2.2.2) ?_ hw (fun q => nomatch q) ?_ ?_ ?_ ?_
    · rw [← e8]
      exact hv
    · rw [zup_i (by decide), zmgp_lo (Or.inr (Or.inr ⟨rfl, rfl⟩)), zup_at]
    · intro _
      rw [zup_k (by decide), zmgp_lo (Or.inr (Or.inl rfl)), zup_k (by decide), zup_at]
    · exact zRg_up (zmgp_rg hr2 N P1.2.2.2) (by decide)
    · refine ⟨N, n, rR_c ?_ rEB.rfl h2⟩
      have o : ∀ c : Nat, c < 110 → zup (zmgp (zup I' 129 0 v) limit N) 110 18 1 c = zup (zgp I limit N) 0 7 1 c := fun c c1 => by
        funext j
        rw [zup_k (by omega), zmgp_lo (Or.inl c1), zup_k (by omega), z129 (by omega), hI]
      exact rEA_of (fun c c1 _ _ _ _ _ => o c c1) (fun j _ _ => by rw [o 10 (by decide)])
  · clear kk hce hsl
    generalize zsc xs (i + 1) = limit at *
    obtain ⟨rfl, c, rfl⟩ := q
    exact ⟨rfl, zPsI (c_X4_group_bad hL.m hr hlimit c) rfl (by decide) (fun q => nomatch q) (zup_at _ _ _ _) (fun q => nomatch q) (zRg_up hr (by decide)) ⟨N, n, i_110 h 1⟩⟩
