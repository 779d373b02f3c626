/-! more steps: feed, merge, store -/
theorem zmfd_00 {I : zStore} {x : Int64} : ∀ i : Nat, zmfd I x i 110 0 = 0
  | 0 => zup_at _ _ _ _
  | i + 1 => by
    have ih := zmfd_00 (I := I) (x := x) i
    simp only [zmfd]
    split
    · exact ih
    · rw [zup_i (by decide), zup_k (by decide)]
      exact ih
theorem zmaj_129 {B : zStore} {f line : Int} {n m : Nat} {j : Int} : zmaj B f line n m 129 j = B 129 j := by
  have hs := zmal_sm (I := B) (f := f) (line := line) (n := n) (m := m)
  unfold zmaj zmM
  rw [zup_k (by decide), zup_k (by decide)]
  unfold zmO
  rw [zm3_o (by decide) (by decide) (by decide)]
  unfold zmN
  rw [zm3_o (by decide) (by decide) (by decide)]
  exact hs 129 j (by decide) (by decide) (by decide) (by decide) (by decide) (Or.inl (by decide))
theorem st_feed : zStp 172 := by
  intro G F I cells slots b L xs i rmG hG hS0 hR hfr hlo hce hsl hL hL2 hi N n hWf hr h kk
  refine w_L_feed (Inv := zInv) hG hS0 hR hfr hlo hce hsl hL hL2 hi (c_L_feed hL (c_X3_feed hL.m.c hr (by have := h.2.1.1; omega)) (fun r I' q => ?_) (fun E I' q => ?_)) (fun K a b => z_widen (by omega) (by omega) hR (by omega) (by omega) (kk K a b))
  · clear kk hce hsl
    generalize (((zJ (zsc xs (i + 1))) <<< ((zI 32).toInt64 &&& 63)) ||| ((zJ (zsc xs (i + 2))) &&& (zJ 4294967295))) = x at *
    have bu := h.2.1.1
    have zc := zcb_bd x 8
    refine ⟨_, q.2.1, by omega, ?_⟩
    obtain ⟨c, -, hI⟩ := q
    have hr1 : zRg I' := by
      rw [hI]
      exact zfd_rg hr (by omega) 8 (Nat.le_refl _) c.1
    generalize hv : I 0 1 + zcb x 8 = v at *
    have hw : zRn v := by omega
    have hr2 := zRg_up (k := 129) (i := 0) (v := v) hr1 hw
    have h1 : rR I (zup I' 129 0 v) N n := rR_c rEA.rfl (rEB_of fun c c1 c9 => by
      rw [z129c (by omega), hI]
      exact funext fun j => zfd_o (by omega) 8) h
    have h2 := r_feed h1 c.1 (by omega)
    have b1 : zup I' 129 0 v 110 1 = I 0 1 := h1.2.1.1.2.2
    have hn : ¬ 30 < zup I' 129 0 v 110 1 + zcb x 8 := by omega
    refine zPsI (c_X4_feed hL.m hr2 (by omega)) ?_ hw (fun q => nomatch q) ?_ ?_ ?_ ?_
    · rw [if_neg c.1, if_neg hn, b1]
      exact hv
    · rw [if_neg c.1, if_neg hn, zmfd_00]
    · intro _
      rw [if_neg c.1, if_neg hn, zmfd_o (by decide), zup_at]
    · rw [if_neg c.1, if_neg hn]
      exact zmfd_rg hr2 (by omega) 8 (Nat.le_refl _) c.1
    · rw [if_neg c.1, if_neg hn]
      refine ⟨N, n, rR_c ?_ rEB.rfl h2⟩
      have o : ∀ c : Nat, c < 110 → zmfd (zup I' 129 0 v) x 8 c = zfd I x 8 c := fun c c1 => by
        funext j
        rw [zmfd_o (by omega) 8, z129 (by omega), hI]
      exact rEA_of (fun c c1 _ _ _ _ _ => o c c1) (fun j _ _ => by rw [o 10 (by decide)])
  · clear kk hce hsl
    generalize (((zJ (zsc xs (i + 1))) <<< ((zI 32).toInt64 &&& 63)) ||| ((zJ (zsc xs (i + 2))) &&& (zJ 4294967295))) = x at *
    have bu := h.2.1.1
    obtain ⟨rfl, q⟩ := q
    rcases q with ⟨rfl, c⟩ | ⟨rfl, c1, c⟩
    · refine Or.inl ⟨rfl, zPsI (c_X4_feed hL.m hr (by omega)) (if_pos c) (by decide) (fun q => nomatch q) ?_ (fun q => nomatch q) ?_ ?_⟩
      · rw [if_pos c, zup_at]
      · rw [if_pos c]
        exact zRg_up hr (by decide)
      · rw [if_pos c]
        exact ⟨N, n, i_110 h 1⟩
    · have c2 : 30 < I' 110 1 + zcb x 8 := by omega
      refine Or.inr ⟨rfl, zPsI (c_X4_feed hL.m hr (by omega)) (by rw [if_neg c1, if_pos c2]) (by decide) (fun q => nomatch q) ?_ (fun q => nomatch q) ?_ ?_⟩
      · rw [if_neg c1, if_pos c2, zup_at]
      · rw [if_neg c1, if_pos c2]
        exact zRg_up hr (by decide)
      · rw [if_neg c1, if_pos c2]
        exact ⟨N, n, i_110 h 2⟩
set_option maxHeartbeats 4000000 in
theorem st_merge : zStp 664 := by
  intro G F I cells slots b L xs i rmG hG hS0 hR hfr hlo hce hsl hL hL2 hi N n hWf hr h kk
  have hline := zsc_rg xs (i + 1)
  refine w_L_merge (Inv := zInv) hG hS0 hR hfr hlo hce hsl hL hL2 hi (c_L_merge hL (c_X3_merge hL.m.c hr hline (p_N h).1 (fun l a b => (p_Ln h l a (by have := h.1.1.1; omega)).1) h.2.2.2.1.1.1 h.2.2.2.1.1.2.2 (fun a b => p_Al h a b) (p_Fo h)) (fun r I' q => ?_) (fun E I' q => ?_)) (fun K a b => z_widen (by omega) (by omega) hR (by omega) (by omega) (kk K a b))
  · clear kk hce hsl
    generalize zsc xs (i + 1) = line at *
    have ec := e_C h q.1.1.1 q.1.1.2
    refine ⟨_, q.2.1, ec.2, ?_⟩
    obtain ⟨c, -, hI⟩ := q
    obtain ⟨l, hl1, hl⟩ := r_line h c.1.1 c.1.2
    subst hl1
    have N12 := h.1.1
    have t4 := p_tok h c.1.1 c.1.2
    have hm : I 4 l = ((I 4 l).toNat : Int) := by omega
    generalize hmm : (I 4 (l : Int)).toNat = m at *
    have b0 : zbit (I 119 0) l = 0 := by
      rw [← h.2.2.2.2.1.1 l (by omega)]
      exact c.2.1
    have hr1 : zRg I' := by
      rw [hI]
      exact zRg_up (zRg_fl (zRg_aj (by decide) hr (by have := p_Al h c.1.1 c.1.2; rw [hmm] at this; exact this) (p_Fo h) c.2.2) fun t _ => zRg_aj (by decide) hr (by have := p_Al h c.1.1 c.1.2; rw [hmm] at this; exact this) (p_Fo h) c.2.2 _ _) (by decide)
    generalize hv : zCC I 15 l n m = v at *
    have hr2 := zRg_up (k := 129) (i := 0) (v := v) hr1 ec.2
    have oc : ∀ c : Nat, 110 ≤ c → I' c = I c := fun c c1 => by
      rw [hI]
      exact funext fun j => (zmg_o (by omega) (by omega)).trans (zaj_o (by omega) (by omega) (by omega) (by omega) (by omega))
    have h1 : rR I (zup I' 129 0 v) N n := rR_c rEA.rfl (rEB_of fun c c1 c9 => by rw [z129c (by omega)]; exact oc c c1) h
    have h1' : rR I (zup (zup I' 129 0 v) 110 0 0) N n := rR_c rEA.rfl (fun c j c1 c2 c3 => by
      rcases c3 with q | q
      · exact zup_k q
      · exact zup_i q.1) h1
    have j119 : zup I' 129 0 v 119 0 = I 119 0 := by rw [z129 (by decide), oc 119 (by decide)]
    have h2 := r_merge h1' hl hm (by rw [zup_k (by decide), j119]; exact b0) c.2.2
    have hA : zmA (zup I' 129 0 v) 0 l n m := r_A h1.1 h1.2.2.1 h1.2.2.2.1 (by decide) hl hm
    have hK : zmK (zup I' 129 0 v) 0 l n m ≤ 40 := by
      rw [r_K h1.1 h1.2.2.1 h1.2.2.2.1 hl hm]
      exact c.2.2
    have hc : zmC (zup I' 129 0 v) 0 l n m = v := by
      rw [← r_C h1.1 h1.2.2.1 h1.2.2.2.1 hl hm]
      exact hv
    refine zPsI (c_X4_merge_ok (n := n) (m := m) hL.m hr2 hline (by rw [j119]; exact p_mk h) (by rw [z129 (by decide), oc 110 (by decide), ← e_2 h]; exact c.1) (by rw [j119, zbit_eq (p_mk h) (by omega), b0]; decide) hA hK) hc ec.2 (fun q => nomatch q) ?_ ?_ ?_ ?_
    · rw [zmaj_o (by decide) (by decide) (by decide) (by decide) (by decide) (by decide) (Or.inr (by decide)), zup_at]
    · intro _
      rw [zmaj_129, zup_k (by decide), zup_at]
    · exact zRg_maj (zRg_up hr2 (by decide)) (r_A h1'.1 h1'.2.2.1 h1'.2.2.2.1 (by decide) hl hm) hK
    · refine ⟨N, _, rR_c ?_ rEB.rfl h2⟩
      have o : ∀ c : Nat, c < 110 → zmaj (zup (zup I' 129 0 v) 110 0 0) 0 l n m c = zmg I l n m c := fun c c1 => by
        funext j
        rw [zmaj_o (by omega) (by omega) (by omega) (by omega) (by omega) (by omega) (Or.inl (by omega)), zup_k (by omega), z129 (by omega), hI]
      exact rEA_of (fun c c1 _ _ _ _ _ => o c c1) (fun j _ _ => by rw [o 10 (by decide)])
  · clear kk hce hsl
    generalize zsc xs (i + 1) = line at *
    rcases q with ⟨rfl, c, rfl⟩ | ⟨rfl, c1, c, rfl⟩ | ⟨rfl, c1, c, c3, hI⟩
    · refine Or.inl ⟨rfl, zPsI (c_X4_merge_bad hL.m hr hline (p_mk h) (by rw [← e_2 h]; exact c)) rfl (by decide) (fun q => nomatch q) (zup_at _ _ _ _) (fun q => nomatch q) (zRg_up hr (by decide)) ⟨N, n, i_110 h 1⟩⟩
    · refine Or.inr ⟨rfl, ?_⟩
      obtain ⟨l, rfl, hl⟩ := r_line h c1.1 c1.2
      have N12 := h.1.1
      have m1 := h.2.2.2.2.1.1 l (by omega)
      have z01 := zbit_01 (I' 119 0) l
      exact zPsI (c_X4_merge_two hL.m hr hline (p_mk h) (by rw [← e_2 h]; exact c1) (by rw [zbit_eq (p_mk h) (by omega)]; omega)) rfl (by decide) (fun q => nomatch q) (zup_at _ _ _ _) (fun q => nomatch q) (zRg_up hr (by decide)) ⟨N, n, i_110 h 2⟩
    · refine Or.inr ⟨rfl, ?_⟩
      have hA0 := p_Al h c1.1 c1.2
      have t4 := p_tok h c1.1 c1.2
      obtain ⟨l, hl1, hl⟩ := r_line h c1.1 c1.2
      subst hl1
      have N12 := h.1.1
      have hm : I 4 l = ((I 4 l).toNat : Int) := by omega
      generalize hmm : (I 4 (l : Int)).toNat = m at *
      have b0 : zbit (I 119 0) l = 0 := by
        rw [← h.2.2.2.2.1.1 l (by omega)]
        exact c
      have hr1 : zRg I' := by
        rw [hI]
        exact zRg_Ae hA0 hr
      have hs : zSc I I' := by
        rw [hI]
        exact zSc_Ae
      have oc : ∀ c : Nat, (c < 10 ∨ 12 < c) → I' c = I c := fun c c1 => funext fun j => hs.o (by omega) (by omega) (by omega)
      have h1 : rR I' I' N n := rR_c (rEA_of (fun c _ _ _ _ _ _ => oc c (by omega)) (fun j j6 j7 => hs 10 j (by decide) (by decide) (Or.inr ⟨j6, j7⟩))) (rEB_of fun c c1 c9 => oc c (by omega)) h
      have hF : rR I I' N n := rR_c rEA.rfl (rEB_of fun c c1 c9 => oc c (by omega)) h
      have hA : zmA I' 0 l n m := r_A hF.1 hF.2.2.1 hF.2.2.2.1 (by decide) hl hm
      have hK : 40 < zmK I' 0 l n m := by
        rw [r_K hF.1 hF.2.2.1 hF.2.2.2.1 hl hm]
        omega
      refine zPsI (c_X4_merge_full hL.m hr1 hline (by rw [oc 119 (by decide)]; exact p_mk h) (by rw [oc 110 (by decide), ← e_2 h]; exact c1) (by rw [oc 119 (by decide), zbit_eq (p_mk h) (by omega), b0]; decide) hA hK) rfl (by decide) (fun q => nomatch q) (zup_at _ _ _ _) (fun q => nomatch q) ?_ ?_
      · exact zRg_up (zRg_mal (zRg_up hr1 (by decide)) (r_A (i_110 h1 0).1 (i_110 h1 0).2.2.1 (i_110 h1 0).2.2.2.1 (by decide) hl (by rw [zup_k (by decide), oc 4 (by decide)]; exact hm))) (by decide)
      · have hS := zmal_sm (I := zup I' 110 0 0) (f := 0) (line := (l : Int)) (n := n) (m := m)
        refine ⟨N, n, i_110 (rR_c ?_ ?_ (i_110 h1 0)) 2⟩
        · exact rEA_of (fun c c1 _ _ _ _ _ => hS.o (by omega) (by omega)) (fun j _ _ => by rw [hS.o (c := 10) (by decide) (by decide)])
        · intro c j c1 c2 c3
          by_cases e : c = 110
          · subst e
            exact hS.f (by rcases c3 with q | q; exact absurd rfl q; exact q.2)
          · rw [hS.o c2 e]
