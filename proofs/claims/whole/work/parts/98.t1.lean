/-! the law from its entry to its loop -/
set_option maxRecDepth 100000 in
set_option maxHeartbeats 8000000 in
theorem w_start {G : zCx} {b L : Nat} {xs : Nat → Int32} {rmG : Room} (hG : zOK G "LineLearnerLaw" cL_law 9) (hO : zAO G) (hS0 : zScr G b L xs) (hR : zRoom G rmG) (hfr : 12 ≤ rmG.frames) (hlo : 428 ≤ rmG.locals) (hce : 601024 ≤ rmG.cells) (hsl : 7293034 ≤ rmG.slots) (hL2 : L ≤ 2048)
    (kend : ∀ (F : zFr) (I : zStore) (i : Int), zW G F 601000 7290000 I [(4, .int (zI i)), (3, .ref (F.1 129)), (2, .ref (F.1 110)), (1, .ref (F.1 0)), (0, .ref b)] [] 1765) : zW G zF0 0 0 (fun _ _ => 0) [(0, .ref b)] [] 0 := by
  show zW G (zext zF0 []) 0 0 (fun _ _ => 0) [(0, .ref b)] [] 0
  refine k_newO (ci := 3) [some none, none, some none, some none, some none, some none, some none, none, none, some none, some none] hG hR zWf_0 rfl zcl3 kw14 kw15 kw1 dflt3 (fun t h => absurd (show some (some t) ∈ [(some none : Option (Option Nat)), none, (some none : Option (Option Nat)), (some none : Option (Option Nat)), (some none : Option (Option Nat)), (some none : Option (Option Nat)), (some none : Option (Option Nat)), none, none, (some none : Option (Option Nat)), (some none : Option (Option Nat))] from h) (by simp)) (by omega) (by omega) dL_law_0 (fun x hW => ?_)
  refine z_dup hG dL_law_3 rfl ?_
  refine z_callI (F := zext zF0 [(x, .inl (3, [some none, none, some none, some none, some none, some none, some none, none, none, some none, some none]))]) [] hG hO hR (c_X3_init (F := zF0) hW (fun _ _ => rfl)) hd_X3_init kw16 kw17 rfl (by show 3 ≤ _; omega) (by show 90 ≤ _; omega) (by show 0 + 1 + 109 ≤ _; omega) (by show 0 + 11 + 6894 ≤ _; omega) rfl rfl (Nat.le_of_ble_eq_true rfl) dL_law_4 (fun F' I' hm hp => ?_)
  obtain ⟨⟨L1, rfl, hs, s1, M1, hx⟩, hW, hI⟩ := hp
  have hz1 : ∀ k, 110 ≤ k → I' k = fun _ => 0 := fun k hk => by
    rw [hI]
    exact (zup_c (by show k ≠ 0 + 10; omega)).trans ((zup_c (by show k ≠ 0 + 10; omega)).trans (zup_c (by show k ≠ 0 + 10; omega)))
  have hI : I' = zup (zup (zup (fun _ _ => 0) 10 1 2) 10 2 3) 10 3 4 := hI
  have hl1 : L1.length = 110 := by
    have := congrArg List.length hs
    rw [List.length_map, spB_len] at this
    exact this
  have hs : L1.map Prod.snd = zlayT.take 110 := hs.trans zlayT_s
  show zW G (zext zF0 L1) 110 6905 I' [(0, .ref b)] [.ref x] 7
  refine z_astore_n (lv' := [(1, .ref x), (0, .ref b)]) hG dL_law_7 rfl (by decide) rfl ?_
  refine k_newO (ci := 4) [none, none, some none, none, some none, some none, some none, some none, some none, some none, none, none, none, some none, some none, some none, some none, some none, none, none, some none, some none, none, some none, some none, some none, some none] hG hR hW (hz1 _ (by rw [hl1]; decide)) zcl4 kw671 kw672 kw5 dflt4 (fun t h => absurd (show some (some t) ∈ [none, none, (some none : Option (Option Nat)), none, (some none : Option (Option Nat)), (some none : Option (Option Nat)), (some none : Option (Option Nat)), (some none : Option (Option Nat)), (some none : Option (Option Nat)), (some none : Option (Option Nat)), none, none, none, (some none : Option (Option Nat)), (some none : Option (Option Nat)), (some none : Option (Option Nat)), (some none : Option (Option Nat)), (some none : Option (Option Nat)), none, none, (some none : Option (Option Nat)), (some none : Option (Option Nat)), none, (some none : Option (Option Nat)), (some none : Option (Option Nat)), (some none : Option (Option Nat)), (some none : Option (Option Nat))] from h) (by simp)) (by omega) (by omega) dL_law_8 (fun y hW => ?_)
  refine z_dup hG dL_law_11 rfl ?_
  rw [zext_app] at hW ⊢
  refine z_callI [] hG hO hR (c_X4_init (F := zext zF0 L1) (x := y) hW (fun k hk => hz1 k (by rw [zext_n, hl1] at hk; exact hk))) hd_X4_init kw673 kw674 rfl (by show 2 ≤ _; omega) (by show 60 ≤ _; omega) (by show 110 + 1 + 18 ≤ _; omega) (by show 6905 + 27 + 10713 ≤ _; omega) rfl rfl (Nat.le_of_ble_eq_true rfl) dL_law_12 (fun F' I2 hm hp => ?_)
  obtain ⟨⟨a1, a2, a3, a4, a5, a6, a7, a8, a9, a10, a11, a12, a13, a14, a15, a16, a17, a18, hF⟩, hW, hI2⟩ := hp
  have n1 : (zext zF0 L1).2.1 = 110 := by rw [zext_n, hl1]; rfl
  rw [n1] at hF hI2
  obtain ⟨M, hM⟩ : ∃ M : List (Nat × zSpec), F' = zext (zext zF0 L1) M ∧ M.map Prod.snd = (zlayT.drop 110).take 19 ∧ M[0]? = some (y, zlay 110) := ⟨_, hF, rfl, rfl⟩
  obtain ⟨hF, hs2, hM0⟩ := hM
  subst hF
  rw [← zext_app] at hW ⊢
  have hl2 : M.length = 19 := by
    have := congrArg List.length hs2
    rw [List.length_map] at this
    exact this
  have hI2 : I2 = zIs := by rw [hI2, hI]; rfl
  subst hI2
  show zW G (zext zF0 (L1 ++ M)) 129 17645 zIs [(1, .ref x), (0, .ref b)] [.ref y] 15
  refine z_astore_n (lv' := [(2, .ref y), (1, .ref x), (0, .ref b)]) hG dL_law_15 rfl (by decide) rfl ?_
  refine z_iconst 1 hG dL_law_16 ?_
  refine k_newJ (N := 1) hG hR hW (by rw [List.length_append, hl1, hl2]; exact funext fun j => zIs_o (by decide) (by decide)) kw973 (by decide) (by omega) (by omega) dL_law_17 (fun o hW => ?_)
  refine z_astore_n (lv' := [(3, .ref o), (2, .ref y), (1, .ref x), (0, .ref b)]) hG dL_law_19 rfl (by decide) rfl ?_
  refine z_iconst 0 hG dL_law_20 ?_
  refine z_istore (lv' := [(4, .int (zI 0)), (3, .ref o), (2, .ref y), (1, .ref x), (0, .ref b)]) hG dL_law_21 (by decide) rfl ?_
  obtain ⟨L3, hL3⟩ : ∃ L3, L3 = (L1 ++ M) ++ [(o, (.inr (.inl (3, 1)) : zSpec))] := ⟨_, rfl⟩
  rw [← hL3] at hW ⊢
  have hs3 : L3.map Prod.snd = zlayT := by
    rw [hL3, List.map_append, List.map_append, hs, hs2]
    rfl
  have x0 : (zext zF0 L3).1 0 = x := (zext_at L3 zF0 (i := 0) (q := (x, s1)) (by rw [hL3, hx]; rfl) rfl).1
  have x1 : (zext zF0 L3).1 110 = y := (zext_at L3 zF0 (i := 110) (q := (y, zlay 110)) (by
    rw [hL3, List.getElem?_append_left (by rw [List.length_append]; omega), List.getElem?_append_right (by omega), hl1]
    exact hM0) rfl).1
  have x2 : (zext zF0 L3).1 129 = o := (zext_at L3 zF0 (i := 129) (q := (o, .inr (.inl (3, 1)))) (by
    rw [hL3, List.getElem?_append_right (by rw [List.length_append]; omega), List.length_append, hl1, hl2]
    rfl) rfl).1
  have kw := w_loop (c9 := 601000) (s9 := 7290000) hG hS0 hR hfr hlo (by omega) (by omega) (zLay_of hs3) hL2 hW (fun I i => kend _ I i) 512 0 zIs 130 17646 0 0 (by omega) (by decide) (by decide) (by decide) (by decide) zIs_rg r_start
  rw [x0, x1, x2] at kw
  exact kw
