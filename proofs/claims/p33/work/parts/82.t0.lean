/-! the start -/
def zIs : zStore := zup (zup (zup (zup (zup (zup (fun _ _ => 0) 10 1 2) 10 2 3) 10 3 4) 110 10 2) 110 11 3) 110 12 4
theorem zIs_o {c : Nat} {j : Int} (h : c ≠ 10) (h2 : c ≠ 110) : zIs c j = 0 := by
  unfold zIs
  rw [zup_k h2, zup_k h2, zup_k h2, zup_k h, zup_k h, zup_k h]
theorem zIs_m {j : Int} (h : j ≠ 10 ∧ j ≠ 11 ∧ j ≠ 12) : zIs 110 j = 0 := by
  unfold zIs
  rw [zup_i h.2.2, zup_i h.2.1, zup_i h.1, zup_k (by decide), zup_k (by decide), zup_k (by decide)]
theorem zIs_rg : zRg zIs := zRg_up (zRg_up (zRg_up (zRg_up (zRg_up (zRg_up (fun _ _ => by decide) (by decide)) (by decide)) (by decide)) (by decide)) (by decide)) (by decide)
theorem r_start : rR zIs zIs 0 0 := by
  have o : ∀ (c : Nat) (j : Int), c ≠ 10 → c ≠ 110 → zIs c j = 0 := fun c j => zIs_o
  refine ⟨⟨⟨o 2 0 (by decide) (by decide), zIs_m (by decide), by decide⟩, fun l hl => absurd hl (by omega), fun p hp => ?_⟩, ⟨⟨?_, ?_, ?_⟩, fun i h0 h1 => ?_⟩, ?_, ⟨⟨o 15 0 (by decide) (by decide), o 118 0 (by decide) (by decide), by decide⟩, ?_, fun i hi => absurd hi (by omega), fun i j hi => absurd hi (by omega)⟩, ⟨fun l hl => ?_, fun l hl q => ?_, fun i hi => absurd hi (by omega), fun i hi => absurd hi (by omega)⟩, ⟨⟨?_, Or.inl (o 0 7 (by decide) (by decide))⟩, ?_, ?_, fun q => ?_⟩⟩
  · obtain ⟨l, t, h1, -⟩ := hp
    exact absurd h1 (by omega)
  · rw [o 0 1 (by decide) (by decide)]; decide
  · rw [o 0 1 (by decide) (by decide)]; decide
  · rw [o 0 1 (by decide) (by decide), zIs_m (by decide)]
  · rw [o 0 1 (by decide) (by decide)] at h1
    omega
  · unfold rCo
    have a1 : zIs 10 1 = 2 := rfl
    have a2 : zIs 10 2 = 3 := rfl
    have a3 : zIs 10 3 = 4 := rfl
    have b1 : zIs 110 10 = 2 := rfl
    have b2 : zIs 110 11 = 3 := rfl
    have b3 : zIs 110 12 = 4 := rfl
    rw [a1, a2, a3, b1, b2, b3]
    decide
  · rw [o 119 0 (by decide) (by decide), o 15 1 (by decide) (by decide)]
    refine ⟨by decide, by decide, zbc_z.symm, fun l hl q => ?_⟩
    rw [zbit_z] at q
    exact absurd q (by decide)
  · rw [o 22 l (by decide) (by decide), o 119 0 (by decide) (by decide), zbit_z]
  · rw [o 119 0 (by decide) (by decide), zbit_z] at q
    exact absurd q (by decide)
  · rw [o 0 7 (by decide) (by decide), zIs_m (by decide)]
  · rw [o 0 8 (by decide) (by decide)]; decide
  · rw [zIs_m (by decide)]; decide
  · rw [o 0 7 (by decide) (by decide)] at q
    exact absurd q (by decide)
/-- the layout of a frame that grew out of none -/
def zF0 : zFr := (fun _ => 0, 0, fun _ => .inr (.inr []))
theorem zWf_0 : zWf zF0 := fun k t hk _ => absurd hk (Nat.not_lt_zero k)

