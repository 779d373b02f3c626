/-! frames that grow, rows that make cells -/
def zzr (I : zStore) (k : Nat) : zStore := fun a b => if a = k then 0 else I a b
theorem zzr_o {I : zStore} {k a : Nat} (h : a ≠ k) : zzr I k a = I a := by
  funext b
  unfold zzr
  rw [if_neg h]
theorem zzr_k {I : zStore} {k : Nat} {b : Int} : zzr I k k b = 0 := by
  unfold zzr
  rw [if_pos rfl]
theorem zfv_ad {ad ad' : Nat → Nat} {row : Int → Int} : ∀ {fs : List (Option (Option Nat))} {j : Nat}, (∀ t, some (some t) ∈ fs → ad' t = ad t) → zfv ad' row j fs = zfv ad row j fs
  | [], _, _ => rfl
  | x :: r, j, h => by
    have h1 := zfv_ad (ad := ad) (ad' := ad') (row := row) (fs := r) (j := j + 1) (fun t ht => h t (List.mem_cons_of_mem _ ht))
    rcases x with _ | _ | t
    · simp only [zfv]; rw [h1]
    · simp only [zfv]; rw [h1]
    · simp only [zfv]; rw [h1, h t List.mem_cons_self]
theorem zE_ad {cs : Nat → ClassId} {F F' : zFr} {I : zStore} {k : Nat} (hs : F'.2.2 k = F.2.2 k) (ha : ∀ t, zrefs (F.2.2 k) t → F'.1 t = F.1 t) : zE cs F' I k = zE cs F I k := by
  unfold zE
  rw [hs]
  rcases h : F.2.2 k with q | q | r
  · rw [h] at ha
    dsimp only
    rw [zfv_ad (fun t ht => ha t ht)]
  · rfl
  · rw [h] at ha
    dsimp only
    congr 7
    funext j
    rcases hj : r.getD j none with _ | t
    · rfl
    · have : some t ∈ r := by
        rw [List.getD_eq_getElem?_getD] at hj
        rcases hq : r[j]? with _ | x
        · rw [hq] at hj; cases hj
        · rw [hq] at hj
          have hx : x = some t := hj
          subst hx
          exact List.mem_of_getElem? hq
      show some (F'.1 t) = some (F.1 t)
      rw [ha t this]
section ZGR
variable {F : zFr} {a : Nat} {sp : zSpec} {I : zStore}
theorem zgrow_ad {k : Nat} (h : k < F.2.1) : (zgrow F a sp).1 k = F.1 k := if_neg (by omega)
theorem zgrow_adn : (zgrow F a sp).1 F.2.1 = a := if_pos rfl
theorem zws_grow {cs : Nat → ClassId} (hW : zWf F) : zws cs (zgrow F a sp) I = zws cs F I ++ [(a, zE cs (zgrow F a sp) I F.2.1)] := by
  unfold zws
  show (List.range (F.2.1 + 1)).map _ = _
  rw [List.range_succ, List.map_append]
  congr 1
  · refine List.map_congr_left fun k hk => ?_
    have hk := List.mem_range.mp hk
    rw [zgrow_ad hk, zE_ad (zgrow_sp hk) (fun t ht => zgrow_ad (hW k t hk ht))]
  · show [((zgrow F a sp).1 F.2.1, _)] = _
    rw [zgrow_adn]
theorem zws_zr {cs : Nat → ClassId} : zws cs F (zzr I F.2.1) = zws cs F I := by
  unfold zws
  refine List.map_congr_left fun k hk => ?_
  have hk := List.mem_range.mp hk
  rw [zE_congr (I' := zzr I F.2.1) (I := I) (fun i => by rw [zzr_o (by omega)])]
end ZGR
section ZGW
variable {G : zCx} {F : zFr} {cells slots : Nat} {I : zStore} {lv : zLv} {st : List Value} {pc : Nat} {own : String} {cc : ByteArray} {nL : Nat}
theorem z_newI {rm : Room} {N : Nat} (hG : zOK G own cc nL) (hRm : zRoom G rm) (hW : zWf F) (harr : zWd (.arrayClass .int)) (hN : N ≤ 100000) (hce : cells + 1 ≤ rm.cells) (hsl : slots + N ≤ rm.slots) (hd : decode cc pc = .ok (.newarray .int, 2)) (kk : ∀ a, zW G (zgrow F a (.inr (.inl (0, N)))) (cells + 1) (slots + N) (zzr I F.2.1) lv (.ref a :: st) (pc + 2)) : zW G F cells slots I lv (.int (zI (N : Int)) :: st) pc := by
  obtain ⟨p, l, e, R, s, m, args, below, meth, c, Q, A, nn, D, cs⟩ := G
  intro hc hs H locs ls hP hD hS hl
  obtain ⟨g1, g2, g3, g4, g5, g6, g7, g8, g9, g10, g11⟩ := hG
  have r3 := hRm.2.2.1
  have r4 := hRm.2.2.2
  have hneg : ¬ zI (N : Int) < 0 := fun q => by
    have := (zI_lt (a := (N : Int)) (b := 0) (by omega) (by omega)).mp q
    omega
  have hcl : (zI (N : Int)).toNatClampNeg = N := by
    have := zI_clamp (z := (N : Int)) (by omega) (by omega)
    omega
  refine va_newa (atype := .int) (ty := .int) (N' := N) (a0 := (N, zar 0 (fun _ => 0))) g1 g2 (g7.at harr _) rfl g6 hP hD hS g10 (fun cA => rfl) hneg hcl (by show N * _ ≤ 536870912; exact Nat.le_trans (Nat.mul_le_mul hN (Nat.le_refl _)) (by decide)) (by omega) (by omega) hd (fun q cA H1 hK2 hP1 hD1 hS1 => ?_)
  have e1 := (hK2.2 0 (cs 0, .int) rfl).2
  have e2 := (hK2.2 5 (cA, .int) rfl).2
  have e3 : some (cs 0) = some cA := e1.symm.trans e2
  have e4 : cA = cs 0 := (Option.some.inj e3).symm
  subst e4
  have hw : zws cs F I ++ [(q, .inl (cs 0, (N, zar 0 (fun _ => 0))))] = zws cs (zgrow F q (.inr (.inl (0, N)))) (zzr I F.2.1) := by
    rw [zws_grow hW, zws_zr]
    congr 3
    rw [zE_arr (zgrow_spn (F := F))]
    congr 4
    funext j
    exact zzr_k.symm
  rw [hw] at hP1 hD1
  exact kk q (by omega) (by omega) H1 locs ls hP1 hD1 hS1 hl
theorem z_newZ {rm : Room} {N : Nat} (hG : zOK G own cc nL) (hRm : zRoom G rm) (hW : zWf F) (harr : zWd (.arrayClass .boolean)) (hN : N ≤ 100000) (hce : cells + 1 ≤ rm.cells) (hsl : slots + N ≤ rm.slots) (hd : decode cc pc = .ok (.newarray .boolean, 2)) (kk : ∀ a, zW G (zgrow F a (.inr (.inl (2, N)))) (cells + 1) (slots + N) (zzr I F.2.1) lv (.ref a :: st) (pc + 2)) : zW G F cells slots I lv (.int (zI (N : Int)) :: st) pc := by
  obtain ⟨p, l, e, R, s, m, args, below, meth, c, Q, A, nn, D, cs⟩ := G
  intro hc hs H locs ls hP hD hS hl
  obtain ⟨g1, g2, g3, g4, g5, g6, g7, g8, g9, g10, g11⟩ := hG
  have r3 := hRm.2.2.1
  have r4 := hRm.2.2.2
  have hneg : ¬ zI (N : Int) < 0 := fun q => by
    have := (zI_lt (a := (N : Int)) (b := 0) (by omega) (by omega)).mp q
    omega
  have hcl : (zI (N : Int)).toNatClampNeg = N := by
    have := zI_clamp (z := (N : Int)) (by omega) (by omega)
    omega
  refine va_newa (atype := .boolean) (ty := .boolean) (N' := N) (a0 := (N, zar 2 (fun _ => 0))) g1 g2 (g7.at harr _) rfl g6 hP hD hS g10 (fun cA => rfl) hneg hcl (by show N * _ ≤ 536870912; exact Nat.le_trans (Nat.mul_le_mul hN (Nat.le_refl _)) (by decide)) (by omega) (by omega) hd (fun q cA H1 hK2 hP1 hD1 hS1 => ?_)
  have e1 := (hK2.2 2 (cs 2, .boolean) rfl).2
  have e2 := (hK2.2 5 (cA, .boolean) rfl).2
  have e3 : some (cs 2) = some cA := e1.symm.trans e2
  have e4 : cA = cs 2 := (Option.some.inj e3).symm
  subst e4
  have hw : zws cs F I ++ [(q, .inl (cs 2, (N, zar 2 (fun _ => 0))))] = zws cs (zgrow F q (.inr (.inl (2, N)))) (zzr I F.2.1) := by
    rw [zws_grow hW, zws_zr]
    congr 3
    rw [zE_arr (zgrow_spn (F := F))]
    congr 4
    funext j
    exact zzr_k.symm
  rw [hw] at hP1 hD1
  exact kk q (by omega) (by omega) H1 locs ls hP1 hD1 hS1 hl
theorem z_newB {rm : Room} {N : Nat} (hG : zOK G own cc nL) (hRm : zRoom G rm) (hW : zWf F) (harr : zWd (.arrayClass .byte)) (hN : N ≤ 100000) (hce : cells + 1 ≤ rm.cells) (hsl : slots + N ≤ rm.slots) (hd : decode cc pc = .ok (.newarray .byte, 2)) (kk : ∀ a, zW G (zgrow F a (.inr (.inl (1, N)))) (cells + 1) (slots + N) (zzr I F.2.1) lv (.ref a :: st) (pc + 2)) : zW G F cells slots I lv (.int (zI (N : Int)) :: st) pc := by
  obtain ⟨p, l, e, R, s, m, args, below, meth, c, Q, A, nn, D, cs⟩ := G
  intro hc hs H locs ls hP hD hS hl
  obtain ⟨g1, g2, g3, g4, g5, g6, g7, g8, g9, g10, g11⟩ := hG
  have r3 := hRm.2.2.1
  have r4 := hRm.2.2.2
  have hneg : ¬ zI (N : Int) < 0 := fun q => by
    have := (zI_lt (a := (N : Int)) (b := 0) (by omega) (by omega)).mp q
    omega
  have hcl : (zI (N : Int)).toNatClampNeg = N := by
    have := zI_clamp (z := (N : Int)) (by omega) (by omega)
    omega
  refine va_newa (atype := .byte) (ty := .byte) (N' := N) (a0 := (N, zar 1 (fun _ => 0))) g1 g2 (g7.at harr _) rfl g6 hP hD hS g10 (fun cA => rfl) hneg hcl (by show N * _ ≤ 536870912; exact Nat.le_trans (Nat.mul_le_mul hN (Nat.le_refl _)) (by decide)) (by omega) (by omega) hd (fun q cA H1 hK2 hP1 hD1 hS1 => ?_)
  have e1 := (hK2.2 1 (cs 1, .byte) rfl).2
  have e2 := (hK2.2 5 (cA, .byte) rfl).2
  have e3 : some (cs 1) = some cA := e1.symm.trans e2
  have e4 : cA = cs 1 := (Option.some.inj e3).symm
  subst e4
  have hw : zws cs F I ++ [(q, .inl (cs 1, (N, zar 1 (fun _ => 0))))] = zws cs (zgrow F q (.inr (.inl (1, N)))) (zzr I F.2.1) := by
    rw [zws_grow hW, zws_zr]
    congr 3
    rw [zE_arr (zgrow_spn (F := F))]
    congr 4
    funext j
    exact zzr_k.symm
  rw [hw] at hP1 hD1
  exact kk q (by omega) (by omega) H1 locs ls hP1 hD1 hS1 hl
end ZGW
