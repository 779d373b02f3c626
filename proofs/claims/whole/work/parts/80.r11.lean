/-! the step merge -/
section RMG
variable {A B : zStore} {N n m : Nat} {line : Nat}
theorem zmg_o {c : Nat} {j : Int} (h : c ≠ 22) (h2 : c ≠ 23) : zmg A line n m c j = zaj A 15 line n m c j := by
  unfold zmg
  rw [zup_k h, zfl_k h2]
theorem zmg_22 {l : Int} : zmg A line n m 22 l = if l = line then 1 else A 22 l := by
  unfold zmg
  by_cases e : l = line
  · rw [if_pos e, e, zup_at]
  · rw [if_neg e, zup_i e, zfl_k (by decide), zaj_o (by decide) (by decide) (by decide) (by decide) (by decide)]
theorem zmg_23 (hm : m ≤ 30) {l t : Nat} (ht : t < 30) : zmg A line n m 23 ((l : Int) * 30 + t) = if l = line ∧ t < m then zaj A 15 line n m 13 t else A 23 ((l : Int) * 30 + t) := by
  unfold zmg
  rw [zup_k (by decide)]
  by_cases e : l = line ∧ t < m
  · obtain ⟨rfl, e2⟩ := e
    rw [if_pos ⟨rfl, e2⟩, zfl_in e2 rfl]
  · rw [if_neg e, zfl_out (by omega), zaj_o (by decide) (by decide) (by decide) (by decide) (by decide)]
theorem r_merge (h : rR A B N n) (hl : line < N) (hm : A 4 line = m) (h0 : zbit (B 119 0) line = 0) (hK : zK A 15 line n m ≤ 40) : rR (zmg A line n m) (zmaj B 0 line n m) N (zK A 15 line n m) := by
  obtain ⟨a1, a2, a3, a4, a5, a6⟩ := h
  have m30 : m ≤ 30 := by
    have := (a1.2.1 line hl).2.1
    omega
  have a : ∀ c, c < 110 → (c < 10 ∨ c = 14 ∨ 23 < c) → zmg A line n m c = A c := fun c hc h2 => funext fun j => by
    rw [zmg_o (by omega) (by omega), zaj_o (by omega) (by omega) (by omega) (by omega) (by omega)]
  have a10 : ∀ j : Int, j ≠ 6 → j ≠ 7 → zmg A line n m 10 j = A 10 j := fun j j6 j7 => by
    rw [zmg_o (by omega) (by omega), zaj_10 (by decide) j6 j7]
  have k : ∀ c, 110 < c → c < 124 → (c < 118 ∨ c = 123) → zmaj B 0 line n m c = B c := fun c c1 c2 c3 => funext fun j => by
    rw [zmaj_o c2 (by omega) (by omega) (by omega) (by omega) (by omega) (Or.inl (by omega))]
  have k0 : ∀ j : Int, j ≠ 22 → zmaj B 0 line n m 110 j = B 110 j := fun j hj => zmaj_o (by decide) (by decide) (by decide) (by decide) (by decide) (by decide) (Or.inr hj)
  have h22 : ∀ l : Nat, zmg A line n m 22 l = if l = line then 1 else A 22 l := fun l => by
    rw [zmg_22]
    by_cases e : l = line
    · rw [if_pos e, if_pos (by omega)]
    · rw [if_neg e, if_neg (by omega)]
  refine ⟨rLn_c ?_ (a 3 (by decide) (by decide)) (a 4 (by decide) (by decide)) (a 5 (by decide) (by decide)) (a 6 (by decide) (by decide)) (a 7 (by decide) (by decide)) (a 8 (by decide) (by decide)) (a 9 (by decide) (by decide)) (k0 3 (by decide)) (k 112 (by decide) (by decide) (by decide)) (k 113 (by decide) (by decide) (by decide)) (k 114 (by decide) (by decide) (by decide)) (k 115 (by decide) (by decide) (by decide)) (k 116 (by decide) (by decide) (by decide)) (k 117 (by decide) (by decide) (by decide)) a1, rBu_c ?_ (a 1 (by decide) (by decide)) (k0 1 (by decide)) (k 111 (by decide) (by decide) (by decide)) a2, rCo_c (a10 1 (by decide) (by decide)) (a10 2 (by decide) (by decide)) (a10 3 (by decide) (by decide)) (k0 10 (by decide)) (k0 11 (by decide)) (k0 12 (by decide)) a3, ?_, ?_, ?_⟩
  · rw [a 2 (by decide) (by decide)]
  · rw [a 0 (by decide) (by decide)]
  · exact rF_merge a1 a3 a4 (by decide) hl hm h0 hK (zmg_o (by decide) (by decide)) (zmg_o (by decide) (by decide)) (fun c j c1 c2 => zmg_o (by omega) (by omega)) (a 9 (by decide) (by decide)) (a 4 (by decide) (by decide)) (a 6 (by decide) (by decide)) rfl rfl (fun c j _ _ => rfl)
  · exact rM_merge a1 a3 a4 a5 hl hm h0 hK (fun c j c1 c2 => zmg_o (by omega) (by omega)) (a 4 (by decide) (by decide)) (a 6 (by decide) (by decide)) (fun l => h22 l) (fun l t ht => zmg_23 m30 ht) rfl (fun c j _ _ => rfl) (k 117 (by decide) (by decide) (by decide))
  · have k8 : ∀ g : Nat, zmaj B 0 line n m 118 (1 + (g : Int)) = B 118 (1 + (g : Int)) := fun g => (zmaj_of (by omega)).1
    unfold rG at *
    rw [a 0 (by decide) (by decide), a 24 (by decide) (by decide), k0 18 (by decide), k0 19 (by decide), k 123 (by decide) (by decide) (by decide)]
    refine ⟨a6.1, a6.2.1, a6.2.2.1, fun q => ?_⟩
    obtain ⟨q1, q2, q3⟩ := a6.2.2.2 q
    refine ⟨q1, q2, fun g hg => ?_⟩
    rw [a (26 + 7 * g) (by omega) (by omega), k8]
    exact q3 g hg
end RMG
/-! the step group -/
theorem znr_c {C C' : Nat → Int} {K K' : Nat → Nat} {limit : Int} : ∀ g : Nat, (∀ i : Nat, i < g → C i = C' i ∧ K i = K' i) → znr C K limit g = znr C' K' limit g
  | 0, _ => rfl
  | g + 1, h => by
    simp only [znr]
    rw [znr_c g fun i hi => h i (by omega), (h g (by omega)).1, (h g (by omega)).2]
theorem znr_K {C : Nat → Int} {K : Nat → Nat} {limit : Int} : ∀ g : Nat, (znr C K limit g).1 = (-1) ∨ ∃ i : Nat, i < g ∧ (znr C K limit g).1 = i ∧ K i ≤ 40
  | 0 => Or.inl rfl
  | g + 1 => by
    have ih := znr_K (C := C) (K := K) (limit := limit) g
    have ih2 : (znr C K limit g).1 = (-1) ∨ ∃ i : Nat, i < g + 1 ∧ (znr C K limit g).1 = i ∧ K i ≤ 40 := by
      rcases ih with q | ⟨i, h1, h2, h3⟩
      · exact Or.inl q
      · exact Or.inr ⟨i, by omega, h2, h3⟩
    simp only [znr]
    split
    · exact ih2
    · split
      · exact Or.inr ⟨g, by omega, rfl, by assumption⟩
      · exact ih2
/-- groups so far: S and T are what A and B have become after l lines -/
def rGI (A B S T : zStore) (N l l0 : Nat) : Prop := (∀ (c : Nat) (j : Int), c < 26 → c ≠ 11 → c ≠ 12 → c ≠ 13 → c ≠ 24 → (c ≠ 10 ∨ j ≠ 6 ∧ j ≠ 7) → (c ≠ 0 ∨ j ≠ 8) → S c j = A c j) ∧
  ((∀ (c : Nat) (j : Int), 110 ≤ c → c < 118 → (c ≠ 110 ∨ j ≠ 0 ∧ j ≠ 19 ∧ j ≠ 22) → T c j = B c j) ∧ (T 118 0 = B 118 0 ∧ T 119 0 = B 119 0) ∧ ∀ i : Nat, i < 40 → T 120 (40 * 0 + (i : Int)) = B 120 (40 * 0 + (i : Int)) ∧ T 121 (40 * 0 + (i : Int)) = B 121 (40 * 0 + (i : Int)) ∧ ∀ l2 : Nat, l2 < 12 → T 122 (12 * (40 * 0 + (i : Int)) + l2) = B 122 (12 * (40 * 0 + (i : Int)) + l2)) ∧
  (S 0 8 = T 110 19 ∧ 0 ≤ S 0 8 ∧ S 0 8 ≤ l) ∧ (∀ g : Nat, (g : Int) < S 0 8 → ∃ k : Nat, rF S T (26 + 7 * g) (1 + (g : Int)) N k ∧ ∀ l2 : Nat, l2 < 12 → zbit (T 119 (1 + (g : Int))) l2 = 1 → l2 < l0) ∧ ∀ l2 : Nat, l2 < l0 → S 24 l2 = T 123 l2
section RGR
variable {A B S T : zStore} {N n l l0 : Nat} {limit : Int}
theorem rGI_0 : rGI A B (zgp A limit 0) (zmgp B limit 0) N 0 0 := by
  have e1 : zgp A limit 0 = zup A 0 8 0 := rfl
  have e2 : zmgp B limit 0 = zup (zup B 110 0 0) 110 19 0 := rfl
  rw [e1, e2]
  refine ⟨fun c j _ _ _ _ _ _ h => ?_, ⟨fun c j _ _ h => ?_, ⟨?_, ?_⟩, fun i _ => ⟨?_, ?_, fun l2 _ => ?_⟩⟩, ⟨?_, ?_, ?_⟩, fun g hg => ?_, fun l2 h => absurd h (by omega)⟩
  · rcases h with h | h
    · exact zup_k h
    · exact zup_i h
  · rcases h with h | h
    · rw [zup_k h, zup_k h]
    · rw [zup_i h.2.1, zup_i h.1]
  · rw [zup_k (by decide), zup_k (by decide)]
  · rw [zup_k (by decide), zup_k (by decide)]
  · rw [zup_k (by decide), zup_k (by decide)]
  · rw [zup_k (by decide), zup_k (by decide)]
  · rw [zup_k (by decide), zup_k (by decide)]
  · rw [zup_at, zup_at]
  · rw [zup_at]; decide
  · rw [zup_at]; decide
  · rw [zup_at] at hg
    omega
theorem rGI_Ln (h : rGI A B S T N l l0) (hL : rLn A B N) : rLn S T N := by
  have a : ∀ c, c < 10 → c ≠ 0 → S c = A c := fun c c1 c2 => funext fun j => h.1 c j (by omega) (by omega) (by omega) (by omega) (by omega) (Or.inl (by omega)) (Or.inl c2)
  have k : ∀ c, 110 < c → c < 118 → T c = B c := fun c c1 c2 => funext fun j => h.2.1.1 c j (by omega) c2 (Or.inl (by omega))
  exact rLn_c (by rw [a 2 (by decide) (by decide)]) (a 3 (by decide) (by decide)) (a 4 (by decide) (by decide)) (a 5 (by decide) (by decide)) (a 6 (by decide) (by decide)) (a 7 (by decide) (by decide)) (a 8 (by decide) (by decide)) (a 9 (by decide) (by decide)) (h.2.1.1 110 3 (by decide) (by decide) (by decide)) (k 112 (by decide) (by decide)) (k 113 (by decide) (by decide)) (k 114 (by decide) (by decide)) (k 115 (by decide) (by decide)) (k 116 (by decide) (by decide)) (k 117 (by decide) (by decide)) hL
theorem rGI_Co (h : rGI A B S T N l l0) (hC : rCo A B) : rCo S T := by
  have a : ∀ j : Int, j ≠ 6 → j ≠ 7 → S 10 j = A 10 j := fun j j6 j7 => h.1 10 j (by decide) (by decide) (by decide) (by decide) (by decide) (Or.inr ⟨j6, j7⟩) (Or.inl (by decide))
  have k : ∀ j : Int, j ≠ 0 → j ≠ 19 → j ≠ 22 → T 110 j = B 110 j := fun j j1 j2 j3 => h.2.1.1 110 j (by decide) (by decide) (Or.inr ⟨j1, j2, j3⟩)
  exact rCo_c (a 1 (by decide) (by decide)) (a 2 (by decide) (by decide)) (a 3 (by decide) (by decide)) (k 10 (by decide) (by decide) (by decide)) (k 11 (by decide) (by decide) (by decide)) (k 12 (by decide) (by decide) (by decide)) hC
/-- the sizes, the costs and the ways of the groups -/
theorem rGI_g (h : rGI A B S T N l l0) {g : Nat} (hg : (g : Int) < S 0 8) : rF S T (26 + 7 * g) (1 + (g : Int)) N (S (26 + 7 * g) 0).toNat ∧ (T 118 (1 + (g : Int))).toNat = (S (26 + 7 * g) 0).toNat ∧ ∀ l2 : Nat, l2 < 12 → zbit (T 119 (1 + (g : Int))) l2 = 1 → l2 < l0 := by
  obtain ⟨k, h1, h2⟩ := h.2.2.2.1 g hg
  have e : (S (26 + 7 * g) 0).toNat = k := by have := h1.1; omega
  have e2 : (T 118 (1 + (g : Int))).toNat = k := by have := h1.1; omega
  rw [e, e2]
  exact ⟨h1, rfl, h2⟩
theorem rGI_v (h : rGI A B S T N l l0) (hL : rLn A B N) (hC : rCo A B) (hl : l < N) : (T 114 l).toNat = (S 4 l).toNat ∧ (∀ g : Nat, (g : Int) < S 0 8 → zCC S (26 + 7 * g) l (S (26 + 7 * g) 0).toNat (S 4 l).toNat = zmC T (1 + g) l (T 118 (1 + g)).toNat (T 114 l).toNat ∧ zK S (26 + 7 * g) l (S (26 + 7 * g) 0).toNat (S 4 l).toNat = zmK T (1 + g) l (T 118 (1 + g)).toNat (T 114 l).toNat) ∧ zmgh T limit l = zgh S limit l ∧ (((zmgv T l).1 = (-1) ∨ limit < (zmgv T l).2) ↔ zgv S limit l = (-1)) ∧ (zgv S limit l = (-1) ∨ ∃ i : Nat, (i : Int) < S 0 8 ∧ zgv S limit l = i ∧ zK S (26 + 7 * i) l (S (26 + 7 * i) 0).toNat (S 4 l).toNat ≤ 40) := by
  have hL2 := rGI_Ln h hL
  have hC2 := rGI_Co h hC
  have tk := (hL2.2.1 l hl).2.1
  have e1 : (T 114 l).toNat = (S 4 l).toNat := by rw [tk.2.2]
  have hm : S 4 l = ((S 4 l).toNat : Int) := by omega
  have G := h.2.2.1
  have cg : ∀ g : Nat, (g : Int) < S 0 8 → zCC S (26 + 7 * g) l (S (26 + 7 * g) 0).toNat (S 4 l).toNat = zmC T (1 + g) l (T 118 (1 + g)).toNat (T 114 l).toNat ∧ zK S (26 + 7 * g) l (S (26 + 7 * g) 0).toNat (S 4 l).toNat = zmK T (1 + g) l (T 118 (1 + g)).toNat (T 114 l).toNat := fun g hg => by
    obtain ⟨h1, h2, -⟩ := rGI_g h hg
    rw [h2, e1]
    exact ⟨r_C hL2 hC2 h1 hl hm, (r_K hL2 hC2 h1 hl hm).symm⟩
  have ez : zgv S limit l = (znr (fun g => zmC T (1 + g) l (T 118 (1 + g)).toNat (T 114 l).toNat) (fun g => zmK T (1 + g) l (T 118 (1 + g)).toNat (T 114 l).toNat) limit (S 0 8).toNat).1 := by
    unfold zgv
    rw [znr_c (S 0 8).toNat fun i hi => cg i (by omega)]
  have eG : (T 110 19).toNat = (S 0 8).toNat := by rw [G.1]
  have cb : ∀ i : Nat, i < (S 0 8).toNat → 0 ≤ zmC T (1 + i) l (T 118 (1 + i)).toNat (T 114 l).toNat ∧ zmC T (1 + i) l (T 118 (1 + i)).toNat (T 114 l).toNat ≤ 1400 := fun i hi => by
    obtain ⟨h1, h2, -⟩ := rGI_g h (g := i) (by omega)
    have b1 := zCC_bd (r_Al hL2 hC2 h1 hl hm) (S (26 + 7 * i) 0).toNat (S 4 l).toNat
    have b2 := h1.1.2.2
    rw [← (cg i (by omega)).1]
    omega
  have zz := zmnr_znr (K := fun g => zmK T (1 + g) l (T 118 (1 + g)).toNat (T 114 l).toNat) (limit := limit) (S 0 8).toNat fun i hi => (cb i hi).1
  have zb := zmnr_bd (K := fun g => zmK T (1 + g) l (T 118 (1 + g)).toNat (T 114 l).toNat) (S 0 8).toNat cb
  have zv : zmgv T l = zmnr (fun g => zmC T (1 + g) l (T 118 (1 + g)).toNat (T 114 l).toNat) (fun g => zmK T (1 + g) l (T 118 (1 + g)).toNat (T 114 l).toNat) (S 0 8).toNat := by
    unfold zmgv
    rw [eG]
  have kk := znr_K (C := fun g => zCC S (26 + 7 * g) l (S (26 + 7 * g) 0).toNat (S 4 l).toNat) (K := fun g => zK S (26 + 7 * g) l (S (26 + 7 * g) 0).toNat (S 4 l).toNat) (limit := limit) (S 0 8).toNat
  rw [← zv] at zz zb
  rw [zz] at ez
  have iff1 : ((zmgv T l).1 = (-1) ∨ limit < (zmgv T l).2) ↔ zgv S limit l = (-1) := by
    rw [ez]
    by_cases q : (zmgv T l).1 ≠ (-1) ∧ (zmgv T l).2 ≤ limit
    · rw [if_pos q]
      omega
    · rw [if_neg q]
      have : (zmgv T l).1 = (-1) ∨ limit < (zmgv T l).2 := by omega
      exact ⟨fun _ => rfl, fun _ => this⟩
  refine ⟨e1, cg, ?_, iff1, ?_⟩
  · unfold zmgh zgh
    by_cases q : zgv S limit l = (-1)
    · rw [if_pos q, if_pos (iff1.mpr q), eG]
    · have q2 : ¬ ((zmgv T l).1 = (-1) ∨ limit < (zmgv T l).2) := fun r => q (iff1.mp r)
      rw [if_neg q, if_neg q2, ez, if_pos (by omega)]
  · rcases kk with q | ⟨i, k1, k2, k3⟩
    · exact Or.inl q
    · exact Or.inr ⟨i, by omega, k2, k3⟩
theorem rF_s {S' T' : zStore} {b k : Nat} {f : Int} (hb : 15 ≤ b) (hS : zSc S S') (hT : zSm T T') (N12 : N ≤ 12) (h : rF S T b f N k) : rF S' T' b f N k := by
  have a : ∀ c, c < 10 ∨ 12 < c → S' c = S c := fun c hc => funext fun j => hS.o (by omega) (by omega) (by omega)
  have t : ∀ c, c < 124 → c ≠ 110 → T' c = T c := fun c c1 c2 => hT.o c1 c2
  exact rF_c (by rw [a b (by omega)]) (by rw [a b (by omega)]) (a _ (by omega)) (a _ (by omega)) (a _ (by omega)) (a _ (by omega)) (a 4 (by decide)) (a 6 (by decide)) (a 9 (by decide)) (by rw [t 118 (by decide) (by decide)]) (by rw [t 119 (by decide) (by decide)]) (fun i _ => by rw [t 120 (by decide) (by decide)]) (fun i _ => by rw [t 121 (by decide) (by decide)]) (fun i _ l _ => by rw [t 122 (by decide) (by decide)]) N12 h
theorem rGI_s {S' T' : zStore} (N12 : N ≤ 12) (h : rGI A B S T N l l0) (hS : zSc S S') (hT : zSm T T') : rGI A B S' T' N l l0 := by
  obtain ⟨h1, ⟨h2, ⟨h3, h4⟩, h5⟩, h6, h7, h8⟩ := h
  have a : ∀ c, c < 10 ∨ 12 < c → S' c = S c := fun c hc => funext fun j => hS.o (by omega) (by omega) (by omega)
  have t : ∀ c, c < 124 → c ≠ 110 → T' c = T c := fun c c1 c2 => hT.o c1 c2
  refine ⟨fun c j k1 k2 k3 k4 k5 k6 k7 => ?_, ⟨fun c j k1 k2 k3 => ?_, ⟨?_, ?_⟩, ?_⟩, ?_, fun g hg => ?_, ?_⟩
  · rw [hS c j k2 k3 k6]
    exact h1 c j k1 k2 k3 k4 k5 k6 k7
  · rw [hT c j (by omega) (by omega) (by omega) (by omega) (by omega) (by omega)]
    exact h2 c j k1 k2 k3
  · rw [t 118 (by decide) (by decide)]; exact h3
  · rw [t 119 (by decide) (by decide)]; exact h4
  · rw [t 120 (by decide) (by decide), t 121 (by decide) (by decide), t 122 (by decide) (by decide)]; exact h5
  · rw [a 0 (by decide), hT.f (by decide)]; exact h6
  · rw [a 0 (by decide)] at hg
    obtain ⟨k, q1, q2⟩ := h7 g hg
    rw [t 119 (by decide) (by decide)]
    exact ⟨k, rF_s (by omega) hS hT N12 q1, q2⟩
  · rw [a 24 (by decide), t 123 (by decide) (by decide)]; exact h8
/-- a new group -/
theorem rGI_new {h : Nat} (N12 : N ≤ 12) (hI : rGI A B S T N l l0) (hh : S 0 8 = h) : rGI A B (zup (zup (zup S (26 + 7 * h) 0 0) (26 + 7 * h) 1 0) 0 8 (S 0 8 + 1)) (zup (zup (zup T 118 (1 + (h : Int)) 0) 119 (1 + (h : Int)) 0) 110 19 (T 110 19 + 1)) N (l + 1) l0 := by
  obtain ⟨h1, ⟨h2, ⟨h3, h4⟩, h5⟩, h6, h7, h8⟩ := hI
  have a : ∀ c : Nat, c ≠ 0 → c ≠ 26 + 7 * h → (zup (zup (zup S (26 + 7 * h) 0 0) (26 + 7 * h) 1 0) 0 8 (S 0 8 + 1)) c = S c := fun c c1 c2 => by rw [zup_c c1, zup_c c2, zup_c c2]
  have t : ∀ c : Nat, c ≠ 110 → c ≠ 118 → c ≠ 119 → (zup (zup (zup T 118 (1 + (h : Int)) 0) 119 (1 + (h : Int)) 0) 110 19 (T 110 19 + 1)) c = T c := fun c c1 c2 c3 => by rw [zup_c c1, zup_c c3, zup_c c2]
  have t8 : ∀ j : Int, j ≠ 1 + (h : Int) → (zup (zup (zup T 118 (1 + (h : Int)) 0) 119 (1 + (h : Int)) 0) 110 19 (T 110 19 + 1)) 118 j = T 118 j ∧ (zup (zup (zup T 118 (1 + (h : Int)) 0) 119 (1 + (h : Int)) 0) 110 19 (T 110 19 + 1)) 119 j = T 119 j := fun j hj => by
    rw [zup_k (by decide), zup_k (by decide), zup_i hj, zup_k (by decide), zup_i hj, zup_k (by decide)]
    exact ⟨rfl, rfl⟩
  have t9 : (zup (zup (zup T 118 (1 + (h : Int)) 0) 119 (1 + (h : Int)) 0) 110 19 (T 110 19 + 1)) 118 (1 + (h : Int)) = 0 ∧ (zup (zup (zup T 118 (1 + (h : Int)) 0) 119 (1 + (h : Int)) 0) 110 19 (T 110 19 + 1)) 119 (1 + (h : Int)) = 0 := by
    rw [zup_k (by decide), zup_k (by decide), zup_at, zup_k (by decide), zup_at]
    exact ⟨rfl, rfl⟩
  have a9 : (zup (zup (zup S (26 + 7 * h) 0 0) (26 + 7 * h) 1 0) 0 8 (S 0 8 + 1)) (26 + 7 * h) 0 = 0 ∧ (zup (zup (zup S (26 + 7 * h) 0 0) (26 + 7 * h) 1 0) 0 8 (S 0 8 + 1)) (26 + 7 * h) 1 = 0 := by
    rw [zup_k (by omega), zup_i (by decide), zup_at, zup_k (by omega), zup_at]
    exact ⟨rfl, rfl⟩
  have g9 : (zup (zup (zup S (26 + 7 * h) 0 0) (26 + 7 * h) 1 0) 0 8 (S 0 8 + 1)) 0 8 = S 0 8 + 1 ∧ (zup (zup (zup T 118 (1 + (h : Int)) 0) 119 (1 + (h : Int)) 0) 110 19 (T 110 19 + 1)) 110 19 = T 110 19 + 1 := ⟨zup_at _ _ _ _, zup_at _ _ _ _⟩
  have a0 : ∀ j : Int, j ≠ 8 → (zup (zup (zup S (26 + 7 * h) 0 0) (26 + 7 * h) 1 0) 0 8 (S 0 8 + 1)) 0 j = S 0 j := fun j hj => by
    rw [zup_i hj, zup_k (by omega), zup_k (by omega)]
  have t0 : ∀ j : Int, j ≠ 19 → (zup (zup (zup T 118 (1 + (h : Int)) 0) 119 (1 + (h : Int)) 0) 110 19 (T 110 19 + 1)) 110 j = T 110 j := fun j hj => by
    rw [zup_i hj, zup_k (by decide), zup_k (by decide)]
  generalize zup (zup (zup S (26 + 7 * h) 0 0) (26 + 7 * h) 1 0) 0 8 (S 0 8 + 1) = S' at *
  generalize zup (zup (zup T 118 (1 + (h : Int)) 0) 119 (1 + (h : Int)) 0) 110 19 (T 110 19 + 1) = T' at *
  refine ⟨fun c j k1 k2 k3 k4 k5 k6 k7 => ?_, ⟨fun c j k1 k2 k3 => ?_, ⟨?_, ?_⟩, ?_⟩, ?_, fun g hg => ?_, ?_⟩
  · rw [← h1 c j k1 k2 k3 k4 k5 k6 k7]
    by_cases c0 : c = 0
    · subst c0
      exact a0 j (by omega)
    · rw [a c c0 (by omega)]
  · rw [← h2 c j k1 k2 k3]
    by_cases c0 : c = 110
    · subst c0
      exact t0 j (by omega)
    · rw [t c c0 (by omega) (by omega)]
  · rw [(t8 0 (by omega)).1]; exact h3
  · rw [(t8 0 (by omega)).2]; exact h4
  · rw [t 120 (by decide) (by decide) (by decide), t 121 (by decide) (by decide) (by decide), t 122 (by decide) (by decide) (by decide)]; exact h5
  · rw [g9.1, g9.2, h6.1]
    omega
  · rw [g9.1] at hg
    by_cases e : g = h
    · subst e
      refine ⟨0, ⟨⟨a9.1, t9.1, by decide⟩, ?_, fun i hi => absurd hi (by omega), fun i j hi => absurd hi (by omega)⟩, fun l2 hl q => ?_⟩
      · rw [t9.2, a9.2]
        refine ⟨by decide, by decide, zbc_z.symm, fun l2 hl q => ?_⟩
        rw [zbit_z] at q
        exact absurd q (by decide)
      · rw [t9.2, zbit_z] at q
        exact absurd q (by decide)
    · obtain ⟨k, q1, q2⟩ := h7 g (by omega)
      rw [(t8 (1 + (g : Int)) (by omega)).2]
      refine ⟨k, rF_c ?_ ?_ (a _ (by omega) (by omega)) (a _ (by omega) (by omega)) (a _ (by omega) (by omega)) (a _ (by omega) (by omega)) (a 4 (by decide) (by omega)) (a 6 (by decide) (by omega)) (a 9 (by decide) (by omega)) (t8 _ (by omega)).1 (t8 _ (by omega)).2 (fun i _ => by rw [t 120 (by decide) (by decide) (by decide)]) (fun i _ => by rw [t 121 (by decide) (by decide) (by decide)]) (fun i _ l _ => by rw [t 122 (by decide) (by decide) (by decide)]) N12 q1, q2⟩
      · rw [a _ (by omega) (by omega)]
      · rw [a _ (by omega) (by omega)]
  · rw [a 24 (by decide) (by omega), t 123 (by decide) (by decide) (by decide)]; exact h8
/-- the line has joined the group -/
theorem rGI_join {h k m : Nat} (hI : rGI A B S T N (l + 1) l) (hL : rLn A B N) (hC : rCo A B) (hl : l < N) (hh : (h : Int) < S 0 8) (hk : (S (26 + 7 * h) 0).toNat = k) (hm : S 4 l = m) (hK : zK S (26 + 7 * h) l k m ≤ 40) : rGI A B (zup (zaj S (26 + 7 * h) l k m) 24 l h) (zup (zmaj T (1 + h) l k m) 123 l h) N (l + 1) (l + 1) := by
  have hL2 := rGI_Ln hI hL
  have hC2 := rGI_Co hI hC
  have N12 := hL.1.2.2
  obtain ⟨hF, -, hbt⟩ := rGI_g hI hh
  rw [hk] at hF
  have h0 : zbit (T 119 (1 + (h : Int))) l = 0 := by
    have := zbit_01 (T 119 (1 + (h : Int))) l
    have := hbt l (by omega)
    omega
  have hzo := zor_eq ⟨hF.2.1.1, hF.2.1.2.1⟩ (show l < 12 by omega) h0
  have hKm : zmK T (1 + (h : Int)) l k m ≤ 40 := by
    rw [r_K hL2 hC2 hF hl hm]
    exact hK
  have a : ∀ c : Nat, (c < 26 + 7 * h ∨ 26 + 7 * h + 6 < c) → c ≠ 24 → c ≠ 10 → c ≠ 11 → c ≠ 12 → c ≠ 13 → zup (zaj S (26 + 7 * h) l k m) 24 l h c = S c := fun c c1 c2 c3 c4 c5 c6 => by
    rw [zup_c c2]
    exact funext fun j => zaj_o c1 c3 c4 c5 c6
  have a10 : ∀ j : Int, j ≠ 6 → j ≠ 7 → zup (zaj S (26 + 7 * h) l k m) 24 l h 10 j = S 10 j := fun j j6 j7 => by
    rw [zup_k (by decide)]
    exact zaj_10 (by omega) j6 j7
  have t : ∀ c : Nat, 110 < c → c < 118 → zup (zmaj T (1 + h) l k m) 123 l h c = T c := fun c c1 c2 => by
    rw [zup_c (by omega)]
    exact funext fun j => zmaj_o (by omega) (by omega) (by omega) (by omega) (by omega) (by omega) (Or.inl (by omega))
  have t0 : ∀ j : Int, j ≠ 22 → zup (zmaj T (1 + h) l k m) 123 l h 110 j = T 110 j := fun j hj => by
    rw [zup_k (by decide)]
    exact zmaj_o (by decide) (by decide) (by decide) (by decide) (by decide) (by decide) (Or.inr hj)
  have t8 : ∀ j : Int, j ≠ 1 + (h : Int) → zup (zmaj T (1 + h) l k m) 123 l h 118 j = T 118 j ∧ zup (zmaj T (1 + h) l k m) 123 l h 119 j = T 119 j := fun j hj => by
    rw [zup_k (by decide), zup_k (by decide)]
    exact zmaj_of hj
  have tg : ∀ (g : Int) (i : Nat), g ≠ 1 + (h : Int) → i < 40 → zup (zmaj T (1 + h) l k m) 123 l h 120 (40 * g + i) = T 120 (40 * g + i) ∧ zup (zmaj T (1 + h) l k m) 123 l h 121 (40 * g + i) = T 121 (40 * g + i) ∧ ∀ l2 : Nat, l2 < 12 → zup (zmaj T (1 + h) l k m) 123 l h 122 (12 * (40 * g + i) + l2) = T 122 (12 * (40 * g + i) + l2) := fun g i hg hi => by
    rw [zup_c (show 120 ≠ 123 by decide), zup_c (show 121 ≠ 123 by decide), zup_c (show 122 ≠ 123 by decide)]
    exact zmaj_og hg hi hKm
  have e119 : zup (zmaj T (1 + h) l k m) 123 l h 119 (1 + (h : Int)) = zor (T 119 (1 + (h : Int))) (zshl 1 l) := by
    rw [zup_k (by decide), zmaj_119]
  have hF2 : rF (zup (zaj S (26 + 7 * h) l k m) 24 l h) (zup (zmaj T (1 + h) l k m) 123 l h) (26 + 7 * h) (1 + (h : Int)) N (zK S (26 + 7 * h) l k m) :=
    rF_merge hL2 hC2 hF (by omega) hl hm h0 hK (zup_k (by omega)) (zup_k (by omega)) (fun c j c1 c2 => zup_k (by omega)) (a 9 (by omega) (by decide) (by decide) (by decide) (by decide) (by decide)) (a 4 (by omega) (by decide) (by decide) (by decide) (by decide) (by decide)) (a 6 (by omega) (by decide) (by decide) (by decide) (by decide) (by decide)) (zup_k (by decide)) (zup_k (by decide)) (fun c j c1 c2 => zup_k (by omega))
  obtain ⟨h1, ⟨h2, ⟨h3, h4⟩, h5⟩, h6, h7, h8⟩ := hI
  have g24 : zup (zaj S (26 + 7 * h) l k m) 24 l h 24 l = h ∧ ∀ j : Int, j ≠ l → zup (zaj S (26 + 7 * h) l k m) 24 l h 24 j = S 24 j := ⟨zup_at _ _ _ _, fun j hj => by
    rw [zup_i hj]
    exact zaj_o (by omega) (by decide) (by decide) (by decide) (by decide)⟩
  have g23 : zup (zmaj T (1 + h) l k m) 123 l h 123 l = h ∧ ∀ j : Int, j ≠ l → zup (zmaj T (1 + h) l k m) 123 l h 123 j = T 123 j := ⟨zup_at _ _ _ _, fun j hj => by
    rw [zup_i hj]
    exact zmaj_o (by decide) (by decide) (by decide) (by decide) (by decide) (by decide) (Or.inl (by decide))⟩
  generalize zup (zaj S (26 + 7 * h) l k m) 24 l h = S' at *
  generalize zup (zmaj T (1 + h) l k m) 123 l h = T' at *
  have a0 : S' 0 = S 0 := a 0 (by omega) (by decide) (by decide) (by decide) (by decide) (by decide)
  refine ⟨fun c j k1 k2 k3 k4 k5 k6 k7 => ?_, ⟨fun c j k1 k2 k3 => ?_, ⟨?_, ?_⟩, fun i hi => ?_⟩, ?_, fun g hg => ?_, fun l2 hl2 => ?_⟩
  · rw [← h1 c j k1 k2 k3 k4 k5 k6 k7]
    by_cases c0 : c = 10
    · subst c0
      exact a10 j (by omega) (by omega)
    · rw [a c (by omega) k5 c0 k2 k3 k4]
  · rw [← h2 c j k1 k2 k3]
    by_cases c0 : c = 110
    · subst c0
      exact t0 j (by omega)
    · rw [t c (by omega) k2]
  · rw [(t8 0 (by omega)).1]; exact h3
  · rw [(t8 0 (by omega)).2]; exact h4
  · have q := tg 0 i (by omega) hi
    have r := h5 i hi
    exact ⟨q.1.trans r.1, q.2.1.trans r.2.1, fun l2 hl2 => (q.2.2 l2 hl2).trans (r.2.2 l2 hl2)⟩
  · rw [a0, t0 19 (by decide)]
    exact h6
  · rw [a0] at hg
    by_cases e : g = h
    · subst e
      refine ⟨_, hF2, fun l2 hl2 q => ?_⟩
      rw [e119, hzo.2.2 l2] at q
      by_cases e2 : l2 = l
      · omega
      · rw [if_neg e2] at q
        have := hbt l2 hl2 q
        omega
    · obtain ⟨k2, q1, q2⟩ := h7 g hg
      have k40 := q1.1.2.2
      have b : ∀ c : Nat, 26 + 7 * g ≤ c → c ≤ 26 + 7 * g + 6 → S' c = S c := fun c c1 c2 => a c (by omega) (by omega) (by omega) (by omega) (by omega) (by omega)
      refine ⟨k2, rF_c ?_ ?_ (b _ (by omega) (by omega)) (b _ (by omega) (by omega)) (b _ (by omega) (by omega)) (b _ (by omega) (by omega)) (a 4 (by omega) (by decide) (by decide) (by decide) (by decide) (by decide)) (a 6 (by omega) (by decide) (by decide) (by decide) (by decide) (by decide)) (a 9 (by omega) (by decide) (by decide) (by decide) (by decide) (by decide)) (t8 _ (by omega)).1 (t8 _ (by omega)).2 (fun i hi => (tg _ i (by omega) (by omega)).1) (fun i hi => (tg _ i (by omega) (by omega)).2.1) (fun i hi l2 hl2 => (tg _ i (by omega) (by omega)).2.2 l2 hl2) N12 q1, fun l2 hl2 q => ?_⟩
      · rw [b _ (by omega) (by omega)]
      · rw [b _ (by omega) (by omega)]
      · rw [(t8 (1 + (g : Int)) (by omega)).2] at q
        have := q2 l2 hl2 q
        omega
  · by_cases e : l2 = l
    · subst e
      rw [g24.1, g23.1]
    · rw [g24.2 _ (by omega), g23.2 _ (by omega)]
      exact h8 l2 (by omega)
end RGR
