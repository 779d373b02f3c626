theorem zs_66_78 : zSite "java/lang/IllegalStateException" "there are 12 lines" ["java/lang/RuntimeException", "java/lang/Exception"] 66 78 70 := ⟨by decide +kernel, by decide +kernel, kw365, kw10, by decide +kernel, (show ∀ w ∈ vx_atS "LineLearner" 70 "java/lang/IllegalStateException" ["java/lang/RuntimeException", "java/lang/Exception"], w ∈ lw_tbl ∧ zst w = true by decide +kernel), by decide +kernel⟩
abbrev rm_X3_store : Room := { frames := 6, cells := 1, slots := 6, locals := 94 }
set_option maxRecDepth 100000 in
set_option maxHeartbeats 4000000 in
theorem s_X3_store_0 {G : zCx} {F : zFr} {I : zStore} {post : Option Value → zStore → Prop} {px : String → zStore → Prop} {J34 : zStore} {v34 : Int} (hG : zOK G "LineLearner" cX3_store 2) (hR : zRoom G rm_X3_store) (hE : zRetI G F cX3_store 1 6 post) (hT : zThr G F cX3_store 1 6 px) (hL : zLay F) (hr : zRg I) (hn : 0 ≤ I 2 0 ∧ I 2 0 ≤ 12) (hb : 0 ≤ I 0 1 ∧ I 0 1 ≤ 30)
    (kc34 : ((I 2 0) < 12) → ∀ (l : Launch) (D : va_G) (cs : Nat → ClassId), l.stackTraces = false → zMt l yX2_add cX2_add 5 (some .int) rm_X2_add D cs F I [.ref (F.1 2), .ref (F.1 1), .int (zI (I 0 1))] (fun r I' => r = some (.int (zI v34)) ∧ I' = J34))
    (hrJ34 : zRg J34)
    (hv34 : -2147483648 ≤ v34 ∧ v34 < 2147483648)
    (k4 : ((I 2 0) < 12) → post (some (.int (zI v34))) (zup (zup J34 0 1 0) 0 7 0))
    (k5 : (12 ≤ (I 2 0)) → px "java/lang/IllegalStateException" I) :
    zW G F 0 0 I [(0, .ref (F.1 0))] [] 0 := by
  refine z_aload_n 0 hG dX3_store_0 rfl rfl ?_
  refine z_getR (t := 2) hG zcl3 (zlt hL (by decide)) (zl0 hL) 2 (by decide) rfl kw161 dX3_store_1 ?_
  refine z_getIN (v := I 2 0) hG zcl2 (zlt hL (by decide)) (zl2 hL) 0 (by decide) rfl rfl rfl kw29 dX3_store_4 ?_
  refine z_bipush 12 hG dX3_store_7 (by decide) ?_
  refine z_icmp_lt (tgt := 22) hG dX3_store_9 (by decide) (hr _ _) (by decide) (fun c9 => ?_) (fun c9 => ?_)
  · skip
    refine z_aload_n 0 hG dX3_store_22 rfl rfl ?_
    refine z_getR (t := 2) hG zcl3 (zlt hL (by decide)) (zl0 hL) 2 (by decide) rfl kw161 dX3_store_23 ?_
    refine z_aload_n 0 hG dX3_store_26 rfl rfl ?_
    refine z_getR (t := 1) hG zcl3 (zlt hL (by decide)) (zl0 hL) 0 (by decide) rfl kw159 dX3_store_27 ?_
    refine z_aload_n 0 hG dX3_store_30 rfl rfl ?_
    refine z_getI (v := I 0 1) hG zcl3 (zlt hL (by decide)) (zl0 hL) 1 (by decide) rfl rfl rfl kw160 dX3_store_31 ?_
    refine z_callV [.ref (F.1 1), .int (zI (I 0 1))] hG hR (kc34 c9) hd_X2_add kw389 kw390 kw391 rfl (zlt hL (by decide)) (zl2 hL) (by decide) (by decide) (by decide) (by decide) rfl rfl (Nat.le_of_ble_eq_true rfl) dX3_store_34 (fun r I' hp => ?_)
    rw [hp.1, hp.2]
    show zW G F 0 0 J34 [(0, .ref (F.1 0))] [.int (zI v34)] 37
    refine z_istore_n (lv' := [(1, .int (zI v34)), (0, .ref (F.1 0))]) hG dX3_store_37 rfl (by decide) rfl ?_
    refine z_aload_n 1 hG dX3_store_38 rfl rfl ?_
    refine z_iconst 0 hG dX3_store_39 ?_
    refine z_putI hG zcl3 (zlt hL (by decide)) (zl0 hL) 1 (by decide) (ki := 1) rfl rfl kw160 rfl rfl dX3_store_40 ?_
    refine z_aload_n 1 hG dX3_store_43 rfl rfl ?_
    refine z_iconst 0 hG dX3_store_44 ?_
    refine z_putZ hG zcl3 (zlt hL (by decide)) (zl0 hL) 7 (by decide) (ki := 7) rfl rfl kw166 rfl rfl (by decide) dX3_store_45 ?_
    refine z_iload_n 0 hG dX3_store_48 rfl rfl ?_
    refine z_widen (k := 1) (n := 6) (by decide) (by decide) hR (by decide) (by decide) ?_
    exact hE _ _ _ _ dX3_store_49 (k4 c9)
  · skip
    exact hT.1 _ _ _ _ _ _ _ _ _ _ _ _ _ zs_66_78 dX3_store_12 dX3_store_15 dX3_store_16 dX3_store_18 dX3_store_21 hR (by decide) (Nat.le_of_ble_eq_true rfl) (by decide) (by decide) (by decide) (by decide) (k5 c9)

theorem zRg_ad {I : zStore} {L z : Nat} {V : Nat → Int} (hr : zRg I) (hL12 : L < 12) (hz : z ≤ 30) (hVr : ∀ t : Nat, t < zcnt (zkb (zad1 I L z) L) z → 0 ≤ V t ∧ V t < 360) : zRg (zad I L z V) := by
  have hn := zcnt_le (zkb (zad1 I L z) L) z
  have hrA : zRg (zad1 I L z) := zRg_up (zRg_fl hr fun k _ => hr 1 k) (by omega)
  have hrB : zRg (zad2 I L z) := zRg_up (zRg_ct hrA (by omega) (by omega)) (by omega)
  have hrC : zRg (zad3 I L z V) := zRg_fl hrB fun k hk => by have := hVr k hk; omega
  exact zRg_up hrC (by omega)
/-- the store behind store -/
def zsto (I : zStore) (L z : Nat) (V : Nat → Int) : zStore := zup (zup (zad I L z V) 0 1 0) 0 7 0
theorem c_X3_store {F : zFr} {I : zStore} {L z : Nat} {V : Nat → Int} (hL : zLay F) (hr : zRg I) (hc : I 2 0 = L) (hL2 : L ≤ 12) (hz0 : I 0 1 = z) (hz : z ≤ 30) (hbt : ∀ j : Int, 0 ≤ j → j < z → 0 ≤ I 1 j ∧ I 1 j ≤ 126) (ht : ∀ l : Nat, l < L → 0 ≤ I 4 l ∧ I 4 l ≤ 30 ∧ ∀ t : Nat, (t : Int) < I 4 l → zTk I (l * 30 + t))
    (hV : ∀ t : Nat, t < zcnt (zkb (zad1 I L z) L) z → zfst (zad2 I L z) L ((L : Int) * 30 + t) (V t)) (hVr : ∀ t : Nat, t < zcnt (zkb (zad1 I L z) L) z → 0 ≤ V t ∧ V t < 360) : ∀ (l : Launch) (D : va_G) (cs : Nat → ClassId), l.stackTraces = false → zMx l yX3_store cX3_store 2 (some .int) rm_X3_store D cs F I [.ref (F.1 0)] (fun r I' => L < 12 ∧ r = some (.int (zI L)) ∧ I' = zsto I L z V) (fun E I' => I' = I ∧ (E = "java/lang/IllegalStateException" ∧ ¬ L < 12)) := by
  intro l D cs hst
  refine zMx.ofI hst (by decide +kernel) rfl (Nat.le_of_ble_eq_true rfl) fun G hG hR hE hT => ?_
  by_cases q : L < 12
  · have h := c_X2_add hL hr hc q hz hbt ht hV hVr
    rw [← hz0] at h
    exact s_X3_store_0 (v34 := L) (J34 := zad I L z V) hG hR hE hT hL hr (by omega) (by omega) (fun _ => h) (zRg_ad hr q hz hVr) (by omega) (fun _ => ⟨q, rfl, rfl⟩) (fun e => absurd e (by omega))
  · exact s_X3_store_0 (v34 := 0) (J34 := I) hG hR hE hT hL hr (by omega) (by omega) (fun e => absurd e (by omega)) hr (by omega) (fun e => absurd e (by omega)) (fun _ => ⟨rfl, rfl, q⟩)
