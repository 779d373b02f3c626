/-! more steps: those that write -/
section SEM4
variable {A B I J : zStore} {N n : Nat}
theorem p_Al (h : rR A B N n) {line : Int} (a : 0 ≤ line) (b : line < A 2 0) : zAl A 15 line n (A 4 line).toNat := by
  have t := p_tok h a b
  obtain ⟨l, rfl, hl⟩ := r_line h a b
  exact r_Al h.1 h.2.2.1 h.2.2.2.1 hl (by omega)
theorem p_mA (h : rR A B N n) {line : Int} (a : 0 ≤ line) (b : line < A 2 0) : zmA B 0 line n (A 4 line).toNat := by
  have t := p_tok h a b
  obtain ⟨l, rfl, hl⟩ := r_line h a b
  exact r_A h.1 h.2.2.1 h.2.2.2.1 (by decide) hl (by omega)
theorem e_C (h : rR A B N n) {line : Int} (a : 0 ≤ line) (b : line < A 2 0) : zCC A 15 line n (A 4 line).toNat = zmC B 0 line n (A 4 line).toNat ∧ zRn (zCC A 15 line n (A 4 line).toNat) := by
  have t := p_tok h a b
  have z := zCC_bd (p_Al h a b) n (A 4 line).toNat
  have n40 := h.2.2.2.1.1.2.2
  obtain ⟨l, rfl, hl⟩ := r_line h a b
  exact ⟨r_C h.1 h.2.2.1 h.2.2.2.1 hl (by omega), by omega⟩
end SEM4
set_option maxHeartbeats 4000000 in
theorem st_costWith : zStp 796 := by
  intro G F I cells slots b L xs i rmG hG hS0 hR hfr hlo hce hsl hL hL2 hi N n hWf hr h kk
  have hline := zsc_rg xs (i + 1)
  refine w_L_costWith (Inv := zInv) hG hS0 hR hfr hlo hce hsl hL hL2 hi (c_L_costWith hL (c_X3_costWith hL.m.c hr hline (p_N h).1 (fun a b => p_Al h a b)) (fun r I' q => ?_) (fun E I' q => ?_)) (fun K a b => z_widen (by omega) (by omega) hR (by omega) (by omega) (kk K a b))
  · clear kk hce hsl
    generalize zsc xs (i + 1) = line at *
    have ec := e_C h q.1.1 q.1.2
    refine ⟨_, q.2.1, ec.2, ?_⟩
    obtain ⟨c, -, hI⟩ := q
    have hB := zCC_bd (p_Al h c.1 c.2)
    have n40 := h.2.2.2.1.1.2.2
    have t4 := p_tok h c.1 c.2
    have hr1 : zRg I' := by
      rw [hI]
      exact zRg_tabCC (p_Al h c.1 c.2) hr n40
    have h1 : rR I' I' N n := by
      rw [hI]
      exact rR_c (rEA_of (fun c _ c1 _ _ _ _ => funext fun j => ztab_k c1) (fun j _ _ => ztab_k (by decide))) (rEB_of fun c c1 _ => funext fun j => ztab_k (by omega)) h
    have e2 : I' 2 0 = I 2 0 := by rw [hI, ztab_k (by decide)]
    have e4 : I' 4 line = I 4 line := by rw [hI, ztab_k (by decide)]
    generalize hv : zCC I 15 line n (I 4 line).toNat = v at *
    have hJ := i_129 h1 v
    have hr2 := zRg_up (k := 129) (i := 0) (v := v) hr1 ec.2
    have c2 : 0 ≤ line ∧ line < zup I' 129 0 v 110 3 := by rw [← e_2 hJ, z129 (by decide), e2]; exact c
    have ca : line < zup I' 129 0 v 2 0 := by rw [z129 (by decide), e2]; exact c.2
    have m4 : (zup I' 129 0 v 4 line).toNat = (I 4 line).toNat := by rw [z129 (by decide), e4]
    have hA := p_mA hJ c.1 ca
    rw [m4] at hA
    refine zPsI (c_X4_costWith hL.m hr2 hline (fun _ _ => hA)) ?_ ec.2 (fun q => nomatch q) ?_ ?_ ?_ ?_
    · rw [if_pos c2, ← hv]
      exact ((e_C (rR_c rEA.rfl (rEB_of fun c c1 c9 => by rw [z129c (by omega), hI]; exact funext fun j => ztab_k (by omega)) h) c.1 c.2).1).symm
    · rw [if_pos c2, ztab_k (by decide), zup_at]
    · intro _
      rw [if_pos c2, ztab_k (by decide), zup_k (by decide), zup_at]
    · rw [if_pos c2]
      exact zRg_mtab (zRg_up hr2 (by decide)) (by have := p_mA (i_110 hJ 0) c.1 (by rw [zup_k (by decide)]; exact ca); rw [zup_k (by decide), m4] at this; exact this)
    · rw [if_pos c2]
      exact ⟨N, n, rR_c (rEA_of (fun c _ _ _ _ _ _ => funext fun j => ztab_k (by omega)) (fun j _ _ => ztab_k (by decide))) (rEB_of fun c c1 c9 => funext fun j => ztab_k (by omega)) (i_110 hJ 0)⟩
  · clear kk hce hsl
    generalize zsc xs (i + 1) = line at *
    refine ⟨q.2.1, ?_⟩
    obtain ⟨rfl, -, c⟩ := q
    have c2 : ¬ (0 ≤ line ∧ line < I' 110 3) := by rw [← e_2 h]; exact c
    refine zPsI (c_X4_costWith (n := n) (m := 0) hL.m hr hline (fun a b => absurd ⟨a, b⟩ c2)) (if_neg c2) (by decide) (fun q => nomatch q) ?_ (fun q => nomatch q) ?_ ?_
    · rw [if_neg c2, zup_at]
    · rw [if_neg c2]
      exact zRg_up hr (by decide)
    · rw [if_neg c2]
      exact ⟨N, n, i_110 h 1⟩
set_option maxHeartbeats 4000000 in
theorem st_fits : zStp 852 := by
  intro G F I cells slots b L xs i rmG hG hS0 hR hfr hlo hce hsl hL hL2 hi N n hWf hr h kk
  have hline := zsc_rg xs (i + 1)
  refine w_L_fits (Inv := zInv) hG hS0 hR hfr hlo hce hsl hL hL2 hi (c_L_fits hL (c_X3_fits hL.m.c hr hline (p_N h).1 (fun a b => p_Al h a b)) (fun r I' q => ?_) (fun E I' q => ?_)) (fun K a b => z_widen (by omega) (by omega) hR (by omega) (by omega) (kk K a b))
  · clear kk hce hsl
    generalize zsc xs (i + 1) = line at *
    have hz := zb_bd (zRR I 15 line n (I 4 line).toNat)
    refine ⟨_, q.2.1, hz, ?_⟩
    obtain ⟨c, -, hI⟩ := q
    have t4 := p_tok h c.1 c.2
    have hr1 : zRg I' := by
      rw [hI]
      exact zRg_fl hr fun x _ => by have := zb_bd (zRR I 15 line n x); omega
    have h1 : rR I' I' N n := by
      rw [hI]
      exact rR_c (rEA_of (fun c _ _ _ _ c1 _ => funext fun j => zM_o c1) (fun j _ _ => zM_o (by decide))) (rEB_of fun c c1 _ => funext fun j => zM_o (by omega)) h
    have e2 : I' 2 0 = I 2 0 := by rw [hI, zM_o (by decide)]
    have e4 : I' 4 line = I 4 line := by rw [hI, zM_o (by decide)]
    have ef : zRR I 15 line n (I 4 line).toNat = zmR (zup I' 129 0 (zb (zRR I 15 line n (I 4 line).toNat))) line n (I 4 line).toNat := by
      obtain ⟨l, hl1, hl⟩ := r_line h c.1 c.2
      rw [hl1] at t4 ⊢
      exact e_fits (rR_c rEA.rfl (rEB_of fun c c1 c9 => by rw [z129c (by omega), hI]; exact funext fun j => zM_o (by omega)) h) hl (by omega)
    generalize hv : zb (zRR I 15 line n (I 4 line).toNat) = v at *
    have hw : zRn v := by omega
    have hJ := i_129 h1 v
    have hr2 := zRg_up (k := 129) (i := 0) (v := v) hr1 hw
    have c2 : 0 ≤ line ∧ line < zup I' 129 0 v 110 3 := by rw [← e_2 hJ, z129 (by decide), e2]; exact c
    exact zRead hr2 hJ (by decide) (c_X4_fits (n := n) (m := (I 4 line).toNat) hL.m hr2 hWf hline (fun a b => by
      obtain ⟨l, hl1, hl⟩ := r_line h c.1 c.2
      subst hl1
      exact p_Ft hJ hl (by rw [z129 (by decide), e4]; omega))) (by rw [if_pos c2, ← ef]; exact hv) hw (fun _ => hz) (if_pos c2) (fun _ => zup_at _ _ _ _)
  · clear kk hce hsl
    generalize zsc xs (i + 1) = line at *
    refine ⟨q.2.1, ?_⟩
    obtain ⟨rfl, -, c⟩ := q
    have c2 : ¬ (0 ≤ line ∧ line < I' 110 3) := by rw [← e_2 h]; exact c
    exact zRead hr h (by decide) (c_X4_fits (n := n) (m := 0) hL.m hr hWf hline (fun a b => absurd ⟨a, b⟩ c2)) (if_neg c2) (by decide) (fun _ => Or.inl rfl) (if_neg c2) (fun q => nomatch q)
set_option maxHeartbeats 4000000 in
theorem st_clear : zStp 720 := by
  intro G F I cells slots b L xs i rmG hG hS0 hR hfr hlo hce hsl hL hL2 hi N n hWf hr h kk
  refine w_L_clear (Inv := zInv) hG hS0 hR hfr hlo hce hsl hL hL2 hi ⟨_, c_X3_clear hL.m.c hr, fun r J q => ?_⟩ (fun K a b => z_widen (by omega) (by omega) hR (by omega) (by omega) (kk K a b))
  clear kk hce hsl
  obtain ⟨q1, hJ⟩ := q
  have e15 : I 15 1 = zbc (I 119 0) := h.2.2.2.1.2.1.2.2.1
  have hrJ : zRg J := by
    rw [hJ]
    exact zRg_fl (zRg_up (zRg_up hr (by decide)) (by decide)) fun _ _ => by decide
  have h1 : rR I J N n := by
    rw [hJ]
    exact rR_c rEA.rfl (rEB_of fun c c1 c2 => zclr_o (by omega)) h
  have h2 := r_clear h1
  rw [← hJ] at h2
  refine ⟨I 15 1, q1, hr _ _, _, c_X4_clear hL.m hrJ (p_mk h1), fun r2 K q2 => ?_⟩
  obtain ⟨q3, rfl⟩ := q2
  refine ⟨by rw [q3, e15, hJ, zclr_o (by decide)], zRg_up (zRg_up (zRg_up hrJ (by decide)) (by decide)) (by decide), N, 0, ?_⟩
  exact rR_c (rEA_of (fun c c1 _ _ _ _ _ => by rw [zup_c (by omega), zup_c (by omega), zup_c (by omega)]) (fun j _ _ => by rw [zup_c (by omega), zup_c (by omega), zup_c (by omega)])) rEB.rfl h2
set_option maxHeartbeats 4000000 in
theorem st_strangest : zStp 915 := by
  intro G F I cells slots b L xs i rmG hG hS0 hR hfr hlo hce hsl hL hL2 hi N n hWf hr h kk
  refine w_L_strangest (Inv := zInv) hG hS0 hR hfr hlo hce hsl hL hL2 hi ⟨_, c_X3_strangest hL.m.c hr h.1.1.1 h.1.1.2.2 (fun l hl => p_Al h (line := (l : Int)) (by omega) (by have := h.1.1.1; omega)), fun r J q => ?_⟩ (fun K a b => z_widen (by omega) (by omega) hR (by omega) (by omega) (kk K a b))
  clear kk hce hsl
  obtain ⟨q1, hE, hrJ⟩ := q
  have h1 : rR I J N n := rR_c rEA.rfl (rEB_of fun c c1 c2 => funext fun j => hE c j (by omega)) h
  have h2 : rR J J N n := rR_c (rEA_of (fun c _ c1 _ _ _ _ => funext fun j => hE c j c1) (fun j _ _ => hE 10 j (by decide))) rEB.rfl h1
  have e4 : ∀ l : Int, J 4 l = I 4 l := fun l => hE 4 l (by decide)
  have es := e_str h1 (m := fun l => (I 4 (l : Int)).toNat) (fun l hl => by have := (h.1.2.1 l hl).2.1; omega)
  refine ⟨_, q1, ?_, _, c_X4_strangest (m := fun l => (I 4 (l : Int)).toNat) hL.m hrJ h2.1.1.2.1 h2.1.1.2.2 (fun l hl => by
    have := p_mA h2 (line := (l : Int)) (by omega) (by have := h2.1.1.1; omega)
    rw [e4] at this
    exact this), fun r2 K q2 => ?_⟩
  · have z := (zsg_bd (C := fun l : Nat => zCC I 15 l n (I 4 (l : Int)).toNat) (b := 1400) (by decide) N (fun i hi => by
      have hi2 : (i : Int) < I 2 0 := by have := h.1.1.1; omega
      have z := zCC_bd (p_Al h (line := (i : Int)) (by omega) hi2) n (I 4 (i : Int)).toNat
      have n40 := h.2.2.2.1.1.2.2
      have t4 := p_tok h (line := (i : Int)) (by omega) hi2
      omega)).1
    have := h.1.1.2.2
    omega
  · obtain ⟨q3, hS, hrK⟩ := q2
    refine ⟨by rw [q3, es], hrK, N, n, ?_⟩
    refine rR_c ?_ ?_ (i_110 h2 0)
    · exact rEA_of (fun c c1 _ _ _ _ _ => hS.o (by omega) (by omega)) (fun j _ _ => by rw [hS.o (c := 10) (by decide) (by decide)])
    · intro c j c1 c2 c3
      by_cases e : c = 110
      · subst e
        exact hS.f (by rcases c3 with q | q; exact absurd rfl q; exact q.2)
      · rw [hS.o c2 e]
