/-! the law's steps without a wrapper -/
set_option maxRecDepth 100000 in
set_option maxHeartbeats 8000000 in
theorem w_L_lineCount {G : zCx} {F : zFr} {I : zStore} {cells slots b L : Nat} {xs : Nat → Int32} {i : Int} {rmG : Room} {Inv : zStore → Prop} (hG : zOK G "LineLearnerLaw" cL_law 9) (hS0 : zScr G b L xs) (hR : zRoom G rmG) (hfr : 12 ≤ rmG.frames) (hlo : 428 ≤ rmG.locals) (hce : cells + 4 ≤ rmG.cells) (hsl : slots + 1400 ≤ rmG.slots) (hL : zLayL F) (hL2 : L ≤ 2048) (hi : 0 ≤ i ∧ i + 4 ≤ L)
    (hC : ∃ post, (∀ (l : Launch) (D : va_G) (cs : Nat → ClassId), l.stackTraces = false → zMt l yX3_lineCount cX3_lineCount 1 (some .int) rm_X3_lineCount D cs F I [.ref (F.1 0)] post) ∧ ∀ r J, post r J → ∃ v : Int, r = some (.int (zI v)) ∧ (-2147483648 ≤ v ∧ v < 2147483648) ∧ ∃ post2, (∀ (l : Launch) (D : va_G) (cs : Nat → ClassId), l.stackTraces = false → zMt l yX4_lineCount cX4_lineCount 1 (some .int) rm_X4_lineCount D cs F J [.ref (F.1 110)] post2) ∧ ∀ r2 K, post2 r2 K → r2 = some (.int (zI v)) ∧ zRg K ∧ Inv K)
    (kk : ∀ K, Inv K → zRg K → zW G F (cells + 0 + 0) (slots + 0 + 0) K [(4, .int (zI i)), (3, .ref (F.1 129)), (2, .ref (F.1 110)), (1, .ref (F.1 0)), (0, .ref b)] [] 1759) : zW G F cells slots I [(4, .int (zI i)), (3, .ref (F.1 129)), (2, .ref (F.1 110)), (1, .ref (F.1 0)), (0, .ref b)] [] 304 := by
  obtain ⟨post, hM, hp⟩ := hC
  refine z_aload_n 3 hG dL_law_304 rfl rfl ?_
  refine z_callV [] hG hR hM hd_X3_lineCount kw193 kw194 kw195 rfl (zltL hL (by decide)) (zl0 hL.m.c) (by show 1 ≤ _; omega) (by show 20 ≤ _; omega) (by show cells + 0 ≤ _; omega) (by show slots + 0 ≤ _; omega) rfl rfl (Nat.le_of_ble_eq_true rfl) dL_law_305 (fun r J hq => ?_)
  obtain ⟨v, rfl, hv, post2, hM2, hp2⟩ := hp r J hq
  show zW G F (cells + 0) (slots + 0) J [(4, .int (zI i)), (3, .ref (F.1 129)), (2, .ref (F.1 110)), (1, .ref (F.1 0)), (0, .ref b)] [.int (zI v)] 308
  refine z_aload_n 2 hG dL_law_308 rfl rfl ?_
  refine z_callV [] hG hR hM2 hd_X4_lineCount kw779 kw780 kw781 rfl (zltL hL (by decide)) (zl110 hL.m) (by show 1 ≤ _; omega) (by show 20 ≤ _; omega) (by show cells + 0 + 0 ≤ _; omega) (by show slots + 0 + 0 ≤ _; omega) rfl rfl (Nat.le_of_ble_eq_true rfl) dL_law_309 (fun r K hq => ?_)
  obtain ⟨rfl, hrK, hI⟩ := hp2 r K hq
  show zW G F (cells + 0 + 0) (slots + 0 + 0) K [(4, .int (zI i)), (3, .ref (F.1 129)), (2, .ref (F.1 110)), (1, .ref (F.1 0)), (0, .ref b)] [.int (zI v), .int (zI v)] 312
  exact z_icmp_eq (tgt := 1759) hG dL_law_312 (by decide) hv hv (fun _ => kk _ hI hrK) (fun q => absurd rfl q)
set_option maxRecDepth 100000 in
set_option maxHeartbeats 8000000 in
theorem w_L_clear {G : zCx} {F : zFr} {I : zStore} {cells slots b L : Nat} {xs : Nat → Int32} {i : Int} {rmG : Room} {Inv : zStore → Prop} (hG : zOK G "LineLearnerLaw" cL_law 9) (hS0 : zScr G b L xs) (hR : zRoom G rmG) (hfr : 12 ≤ rmG.frames) (hlo : 428 ≤ rmG.locals) (hce : cells + 4 ≤ rmG.cells) (hsl : slots + 1400 ≤ rmG.slots) (hL : zLayL F) (hL2 : L ≤ 2048) (hi : 0 ≤ i ∧ i + 4 ≤ L)
    (hC : ∃ post, (∀ (l : Launch) (D : va_G) (cs : Nat → ClassId), l.stackTraces = false → zMt l yX3_clear cX3_clear 3 (some .int) rm_X3_clear D cs F I [.ref (F.1 0)] post) ∧ ∀ r J, post r J → ∃ v : Int, r = some (.int (zI v)) ∧ (-2147483648 ≤ v ∧ v < 2147483648) ∧ ∃ post2, (∀ (l : Launch) (D : va_G) (cs : Nat → ClassId), l.stackTraces = false → zMt l yX4_clear cX4_clear 2 (some .int) rm_X4_clear D cs F J [.ref (F.1 110)] post2) ∧ ∀ r2 K, post2 r2 K → r2 = some (.int (zI v)) ∧ zRg K ∧ Inv K)
    (kk : ∀ K, Inv K → zRg K → zW G F (cells + 0 + 0) (slots + 0 + 0) K [(4, .int (zI i)), (3, .ref (F.1 129)), (2, .ref (F.1 110)), (1, .ref (F.1 0)), (0, .ref b)] [] 1759) : zW G F cells slots I [(4, .int (zI i)), (3, .ref (F.1 129)), (2, .ref (F.1 110)), (1, .ref (F.1 0)), (0, .ref b)] [] 720 := by
  obtain ⟨post, hM, hp⟩ := hC
  refine z_aload_n 3 hG dL_law_720 rfl rfl ?_
  refine z_callV [] hG hR hM hd_X3_clear kw197 kw198 kw199 rfl (zltL hL (by decide)) (zl0 hL.m.c) (by show 2 ≤ _; omega) (by show 42 ≤ _; omega) (by show cells + 0 ≤ _; omega) (by show slots + 0 ≤ _; omega) rfl rfl (Nat.le_of_ble_eq_true rfl) dL_law_721 (fun r J hq => ?_)
  obtain ⟨v, rfl, hv, post2, hM2, hp2⟩ := hp r J hq
  show zW G F (cells + 0) (slots + 0) J [(4, .int (zI i)), (3, .ref (F.1 129)), (2, .ref (F.1 110)), (1, .ref (F.1 0)), (0, .ref b)] [.int (zI v)] 724
  refine z_aload_n 2 hG dL_law_724 rfl rfl ?_
  refine z_callV [] hG hR hM2 hd_X4_clear kw866 kw867 kw868 rfl (zltL hL (by decide)) (zl110 hL.m) (by show 2 ≤ _; omega) (by show 41 ≤ _; omega) (by show cells + 0 + 0 ≤ _; omega) (by show slots + 0 + 0 ≤ _; omega) rfl rfl (Nat.le_of_ble_eq_true rfl) dL_law_725 (fun r K hq => ?_)
  obtain ⟨rfl, hrK, hI⟩ := hp2 r K hq
  show zW G F (cells + 0 + 0) (slots + 0 + 0) K [(4, .int (zI i)), (3, .ref (F.1 129)), (2, .ref (F.1 110)), (1, .ref (F.1 0)), (0, .ref b)] [.int (zI v), .int (zI v)] 728
  exact z_icmp_eq (tgt := 1759) hG dL_law_728 (by decide) hv hv (fun _ => kk _ hI hrK) (fun q => absurd rfl q)
set_option maxRecDepth 100000 in
set_option maxHeartbeats 8000000 in
theorem w_L_strangest {G : zCx} {F : zFr} {I : zStore} {cells slots b L : Nat} {xs : Nat → Int32} {i : Int} {rmG : Room} {Inv : zStore → Prop} (hG : zOK G "LineLearnerLaw" cL_law 9) (hS0 : zScr G b L xs) (hR : zRoom G rmG) (hfr : 12 ≤ rmG.frames) (hlo : 428 ≤ rmG.locals) (hce : cells + 4 ≤ rmG.cells) (hsl : slots + 1400 ≤ rmG.slots) (hL : zLayL F) (hL2 : L ≤ 2048) (hi : 0 ≤ i ∧ i + 4 ≤ L)
    (hC : ∃ post, (∀ (l : Launch) (D : va_G) (cs : Nat → ClassId), l.stackTraces = false → zMt l yX3_strangest cX3_strangest 5 (some .int) rm_X3_strangest D cs F I [.ref (F.1 0)] post) ∧ ∀ r J, post r J → ∃ v : Int, r = some (.int (zI v)) ∧ (-2147483648 ≤ v ∧ v < 2147483648) ∧ ∃ post2, (∀ (l : Launch) (D : va_G) (cs : Nat → ClassId), l.stackTraces = false → zMt l yX4_strangest cX4_strangest 5 (some .int) rm_X4_strangest D cs F J [.ref (F.1 110)] post2) ∧ ∀ r2 K, post2 r2 K → r2 = some (.int (zI v)) ∧ zRg K ∧ Inv K)
    (kk : ∀ K, Inv K → zRg K → zW G F (cells + 0 + 0) (slots + 0 + 0) K [(4, .int (zI i)), (3, .ref (F.1 129)), (2, .ref (F.1 110)), (1, .ref (F.1 0)), (0, .ref b)] [] 1759) : zW G F cells slots I [(4, .int (zI i)), (3, .ref (F.1 129)), (2, .ref (F.1 110)), (1, .ref (F.1 0)), (0, .ref b)] [] 915 := by
  obtain ⟨post, hM, hp⟩ := hC
  refine z_aload_n 3 hG dL_law_915 rfl rfl ?_
  refine z_callV [] hG hR hM hd_X3_strangest kw205 kw206 kw207 rfl (zltL hL (by decide)) (zl0 hL.m.c) (by show 5 ≤ _; omega) (by show 122 ≤ _; omega) (by show cells + 0 ≤ _; omega) (by show slots + 0 ≤ _; omega) rfl rfl (Nat.le_of_ble_eq_true rfl) dL_law_916 (fun r J hq => ?_)
  obtain ⟨v, rfl, hv, post2, hM2, hp2⟩ := hp r J hq
  show zW G F (cells + 0) (slots + 0) J [(4, .int (zI i)), (3, .ref (F.1 129)), (2, .ref (F.1 110)), (1, .ref (F.1 0)), (0, .ref b)] [.int (zI v)] 919
  refine z_aload_n 2 hG dL_law_919 rfl rfl ?_
  refine z_callV [] hG hR hM2 hd_X4_strangest kw890 kw891 kw892 rfl (zltL hL (by decide)) (zl110 hL.m) (by show 7 ≤ _; omega) (by show 168 ≤ _; omega) (by show cells + 0 + 0 ≤ _; omega) (by show slots + 0 + 0 ≤ _; omega) rfl rfl (Nat.le_of_ble_eq_true rfl) dL_law_920 (fun r K hq => ?_)
  obtain ⟨rfl, hrK, hI⟩ := hp2 r K hq
  show zW G F (cells + 0 + 0) (slots + 0 + 0) K [(4, .int (zI i)), (3, .ref (F.1 129)), (2, .ref (F.1 110)), (1, .ref (F.1 0)), (0, .ref b)] [.int (zI v), .int (zI v)] 923
  exact z_icmp_eq (tgt := 1759) hG dL_law_923 (by decide) hv hv (fun _ => kk _ hI hrK) (fun q => absurd rfl q)
set_option maxRecDepth 100000 in
set_option maxHeartbeats 8000000 in
theorem w_L_slotCount {G : zCx} {F : zFr} {I : zStore} {cells slots b L : Nat} {xs : Nat → Int32} {i : Int} {rmG : Room} {Inv : zStore → Prop} (hG : zOK G "LineLearnerLaw" cL_law 9) (hS0 : zScr G b L xs) (hR : zRoom G rmG) (hfr : 12 ≤ rmG.frames) (hlo : 428 ≤ rmG.locals) (hce : cells + 4 ≤ rmG.cells) (hsl : slots + 1400 ≤ rmG.slots) (hL : zLayL F) (hL2 : L ≤ 2048) (hi : 0 ≤ i ∧ i + 4 ≤ L)
    (hC : ∃ post, (∀ (l : Launch) (D : va_G) (cs : Nat → ClassId), l.stackTraces = false → zMt l yX3_slotCount cX3_slotCount 1 (some .int) rm_X3_slotCount D cs F I [.ref (F.1 0)] post) ∧ ∀ r J, post r J → ∃ v : Int, r = some (.int (zI v)) ∧ (-2147483648 ≤ v ∧ v < 2147483648) ∧ ∃ post2, (∀ (l : Launch) (D : va_G) (cs : Nat → ClassId), l.stackTraces = false → zMt l yX4_slotCount cX4_slotCount 1 (some .int) rm_X4_slotCount D cs F J [.ref (F.1 110)] post2) ∧ ∀ r2 K, post2 r2 K → r2 = some (.int (zI v)) ∧ zRg K ∧ Inv K)
    (kk : ∀ K, Inv K → zRg K → zW G F (cells + 0 + 0) (slots + 0 + 0) K [(4, .int (zI i)), (3, .ref (F.1 129)), (2, .ref (F.1 110)), (1, .ref (F.1 0)), (0, .ref b)] [] 1759) : zW G F cells slots I [(4, .int (zI i)), (3, .ref (F.1 129)), (2, .ref (F.1 110)), (1, .ref (F.1 0)), (0, .ref b)] [] 928 := by
  obtain ⟨post, hM, hp⟩ := hC
  refine z_aload_n 3 hG dL_law_928 rfl rfl ?_
  refine z_callV [] hG hR hM hd_X3_slotCount kw235 kw236 kw237 rfl (zltL hL (by decide)) (zl0 hL.m.c) (by show 1 ≤ _; omega) (by show 20 ≤ _; omega) (by show cells + 0 ≤ _; omega) (by show slots + 0 ≤ _; omega) rfl rfl (Nat.le_of_ble_eq_true rfl) dL_law_929 (fun r J hq => ?_)
  obtain ⟨v, rfl, hv, post2, hM2, hp2⟩ := hp r J hq
  show zW G F (cells + 0) (slots + 0) J [(4, .int (zI i)), (3, .ref (F.1 129)), (2, .ref (F.1 110)), (1, .ref (F.1 0)), (0, .ref b)] [.int (zI v)] 932
  refine z_aload_n 2 hG dL_law_932 rfl rfl ?_
  refine z_callV [] hG hR hM2 hd_X4_slotCount kw894 kw895 kw896 rfl (zltL hL (by decide)) (zl110 hL.m) (by show 1 ≤ _; omega) (by show 20 ≤ _; omega) (by show cells + 0 + 0 ≤ _; omega) (by show slots + 0 + 0 ≤ _; omega) rfl rfl (Nat.le_of_ble_eq_true rfl) dL_law_933 (fun r K hq => ?_)
  obtain ⟨rfl, hrK, hI⟩ := hp2 r K hq
  show zW G F (cells + 0 + 0) (slots + 0 + 0) K [(4, .int (zI i)), (3, .ref (F.1 129)), (2, .ref (F.1 110)), (1, .ref (F.1 0)), (0, .ref b)] [.int (zI v), .int (zI v)] 936
  exact z_icmp_eq (tgt := 1759) hG dL_law_936 (by decide) hv hv (fun _ => kk _ hI hrK) (fun q => absurd rfl q)
set_option maxRecDepth 100000 in
set_option maxHeartbeats 8000000 in
theorem w_L_bits {G : zCx} {F : zFr} {I : zStore} {cells slots b L : Nat} {xs : Nat → Int32} {i : Int} {rmG : Room} {Inv : zStore → Prop} (hG : zOK G "LineLearnerLaw" cL_law 9) (hS0 : zScr G b L xs) (hR : zRoom G rmG) (hfr : 12 ≤ rmG.frames) (hlo : 428 ≤ rmG.locals) (hce : cells + 4 ≤ rmG.cells) (hsl : slots + 1400 ≤ rmG.slots) (hL : zLayL F) (hL2 : L ≤ 2048) (hi : 0 ≤ i ∧ i + 4 ≤ L)
    (hC : ∃ post, (∀ (l : Launch) (D : va_G) (cs : Nat → ClassId), l.stackTraces = false → zMt l yX3_bits cX3_bits 4 (some .int) rm_X3_bits D cs F I [.ref (F.1 0)] post) ∧ ∀ r J, post r J → ∃ v : Int, r = some (.int (zI v)) ∧ (-2147483648 ≤ v ∧ v < 2147483648) ∧ ∃ post2, (∀ (l : Launch) (D : va_G) (cs : Nat → ClassId), l.stackTraces = false → zMt l yX4_bits cX4_bits 1 (some .int) rm_X4_bits D cs F J [.ref (F.1 110)] post2) ∧ ∀ r2 K, post2 r2 K → r2 = some (.int (zI v)) ∧ zRg K ∧ Inv K)
    (kk : ∀ K, Inv K → zRg K → zW G F (cells + 0 + 1) (slots + 0 + 4) K [(4, .int (zI i)), (3, .ref (F.1 129)), (2, .ref (F.1 110)), (1, .ref (F.1 0)), (0, .ref b)] [] 1759) : zW G F cells slots I [(4, .int (zI i)), (3, .ref (F.1 129)), (2, .ref (F.1 110)), (1, .ref (F.1 0)), (0, .ref b)] [] 1523 := by
  obtain ⟨post, hM, hp⟩ := hC
  refine z_aload_n 3 hG dL_law_1523 rfl rfl ?_
  refine z_callV [] hG hR hM hd_X3_bits kw239 kw240 kw241 rfl (zltL hL (by decide)) (zl0 hL.m.c) (by show 3 ≤ _; omega) (by show 69 ≤ _; omega) (by show cells + 0 ≤ _; omega) (by show slots + 0 ≤ _; omega) rfl rfl (Nat.le_of_ble_eq_true rfl) dL_law_1524 (fun r J hq => ?_)
  obtain ⟨v, rfl, hv, post2, hM2, hp2⟩ := hp r J hq
  show zW G F (cells + 0) (slots + 0) J [(4, .int (zI i)), (3, .ref (F.1 129)), (2, .ref (F.1 110)), (1, .ref (F.1 0)), (0, .ref b)] [.int (zI v)] 1527
  refine z_aload_n 2 hG dL_law_1527 rfl rfl ?_
  refine z_callV [] hG hR hM2 hd_X4_bits kw942 kw943 kw944 rfl (zltL hL (by decide)) (zl110 hL.m) (by show 6 ≤ _; omega) (by show 135 ≤ _; omega) (by show cells + 0 + 1 ≤ _; omega) (by show slots + 0 + 4 ≤ _; omega) rfl rfl (Nat.le_of_ble_eq_true rfl) dL_law_1528 (fun r K hq => ?_)
  obtain ⟨rfl, hrK, hI⟩ := hp2 r K hq
  show zW G F (cells + 0 + 1) (slots + 0 + 4) K [(4, .int (zI i)), (3, .ref (F.1 129)), (2, .ref (F.1 110)), (1, .ref (F.1 0)), (0, .ref b)] [.int (zI v), .int (zI v)] 1531
  exact z_icmp_eq (tgt := 1759) hG dL_law_1531 (by decide) hv hv (fun _ => kk _ hI hrK) (fun q => absurd rfl q)
set_option maxRecDepth 100000 in
set_option maxHeartbeats 8000000 in
theorem w_L_saving {G : zCx} {F : zFr} {I : zStore} {cells slots b L : Nat} {xs : Nat → Int32} {i : Int} {rmG : Room} {Inv : zStore → Prop} (hG : zOK G "LineLearnerLaw" cL_law 9) (hS0 : zScr G b L xs) (hR : zRoom G rmG) (hfr : 12 ≤ rmG.frames) (hlo : 428 ≤ rmG.locals) (hce : cells + 4 ≤ rmG.cells) (hsl : slots + 1400 ≤ rmG.slots) (hL : zLayL F) (hL2 : L ≤ 2048) (hi : 0 ≤ i ∧ i + 4 ≤ L)
    (hC : ∃ post, (∀ (l : Launch) (D : va_G) (cs : Nat → ClassId), l.stackTraces = false → zMt l yX3_saving cX3_saving 3 (some .double) rm_X3_saving D cs F I [.ref (F.1 0)] post) ∧ ∀ r J, post r J → ∃ v : UInt64, r = some (.double v) ∧ ∃ post2, (∀ (l : Launch) (D : va_G) (cs : Nat → ClassId), l.stackTraces = false → zMt l yX4_saving cX4_saving 3 (some .double) rm_X4_saving D cs F J [.ref (F.1 110)] post2) ∧ ∀ r2 K, post2 r2 K → r2 = some (.double v) ∧ zRg K ∧ Inv K)
    (kk : ∀ K, Inv K → zRg K → zW G F (cells + 0 + 1) (slots + 0 + 4) K [(4, .int (zI i)), (3, .ref (F.1 129)), (2, .ref (F.1 110)), (1, .ref (F.1 0)), (0, .ref b)] [] 1759) : zW G F cells slots I [(4, .int (zI i)), (3, .ref (F.1 129)), (2, .ref (F.1 110)), (1, .ref (F.1 0)), (0, .ref b)] [] 1536 := by
  obtain ⟨post, hM, hp⟩ := hC
  refine z_aload_n 3 hG dL_law_1536 rfl rfl ?_
  refine z_callV [] hG hR hM hd_X3_saving kw258 kw259 kw260 rfl (zltL hL (by decide)) (zl0 hL.m.c) (by show 4 ≤ _; omega) (by show 91 ≤ _; omega) (by show cells + 0 ≤ _; omega) (by show slots + 0 ≤ _; omega) rfl rfl (Nat.le_of_ble_eq_true rfl) dL_law_1537 (fun r J hq => ?_)
  obtain ⟨v, rfl, post2, hM2, hp2⟩ := hp r J hq
  show zW G F (cells + 0) (slots + 0) J [(4, .int (zI i)), (3, .ref (F.1 129)), (2, .ref (F.1 110)), (1, .ref (F.1 0)), (0, .ref b)] [.double v] 1540
  refine z_dstore (lv' := [(5, .double v), (4, .int (zI i)), (3, .ref (F.1 129)), (2, .ref (F.1 110)), (1, .ref (F.1 0)), (0, .ref b)]) hG dL_law_1540 (by decide) rfl ?_
  refine z_aload_n 3 hG dL_law_1542 rfl rfl ?_
  refine z_callV [] hG hR hM2 hd_X4_saving kw950 kw951 kw952 rfl (zltL hL (by decide)) (zl110 hL.m) (by show 6 ≤ _; omega) (by show 137 ≤ _; omega) (by show cells + 0 + 1 ≤ _; omega) (by show slots + 0 + 4 ≤ _; omega) rfl rfl (Nat.le_of_ble_eq_true rfl) dL_law_1543 (fun r K hq => ?_)
  obtain ⟨rfl, hrK, hI⟩ := hp2 r K hq
  show zW G F (cells + 0 + 1) (slots + 0 + 4) K [(5, .double v), (4, .int (zI i)), (3, .ref (F.1 129)), (2, .ref (F.1 110)), (1, .ref (F.1 0)), (0, .ref b)] [.double v] 1546
  refine z_dstore (lv' := [(7, .double v), (5, .double v), (4, .int (zI i)), (3, .ref (F.1 129)), (2, .ref (F.1 110)), (1, .ref (F.1 0)), (0, .ref b)]) hG dL_law_1546 (by decide) rfl ?_
  have kE : zW G F (cells + 0 + 1) (slots + 0 + 4) K [(7, .double v), (5, .double v), (4, .int (zI i)), (3, .ref (F.1 129)), (2, .ref (F.1 110)), (1, .ref (F.1 0)), (0, .ref b)] [] 1574 := by
    refine z_goto (tgt := 1759) hG dL_law_1574 (by decide) ?_
    refine z_perm (lv' := [(4, .int (zI i)), (3, .ref (F.1 129)), (2, .ref (F.1 110)), (1, .ref (F.1 0)), (0, .ref b)]) [2, 3, 4, 5, 6] rfl ?_
    exact kk _ hI hrK
  obtain ⟨c, hc⟩ : ∃ c, c = Op.cmpValue (FP.dcmp v v) .l := ⟨_, rfl⟩
  refine z_dload 1 hG dL_law_1548 rfl ?_
  refine z_dload 0 hG dL_law_1550 rfl ?_
  refine z_dcmpR hG dL_law_1552 ?_
  rw [← hc, ← zI_of c]
  refine z_if_eq (tgt := 1574) hG dL_law_1553 (by decide) (zI_rng c) (fun _ => kE) (fun q => ?_)
  refine z_dload 1 hG dL_law_1556 rfl ?_
  refine z_dload 1 hG dL_law_1558 rfl ?_
  refine z_dcmpR hG dL_law_1560 ?_
  rw [← hc, ← zI_of c]
  refine z_if_eq (tgt := 1572) hG dL_law_1561 (by decide) (zI_rng c) (fun q2 => absurd q2 q) (fun _ => ?_)
  refine z_dload 0 hG dL_law_1564 rfl ?_
  refine z_dload 0 hG dL_law_1566 rfl ?_
  refine z_dcmpR hG dL_law_1568 ?_
  rw [← hc, ← zI_of c]
  exact z_if_ne (tgt := 1574) hG dL_law_1569 (by decide) (zI_rng c) (fun _ => kE) (fun q2 => absurd q2 q)
set_option maxRecDepth 100000 in
set_option maxHeartbeats 8000000 in
theorem w_L_digest {G : zCx} {F : zFr} {I : zStore} {cells slots b L : Nat} {xs : Nat → Int32} {i : Int} {rmG : Room} {Inv : zStore → Prop} (hG : zOK G "LineLearnerLaw" cL_law 9) (hS0 : zScr G b L xs) (hR : zRoom G rmG) (hfr : 12 ≤ rmG.frames) (hlo : 428 ≤ rmG.locals) (hce : cells + 4 ≤ rmG.cells) (hsl : slots + 1400 ≤ rmG.slots) (hL : zLayL F) (hL2 : L ≤ 2048) (hi : 0 ≤ i ∧ i + 4 ≤ L)
    (hC : ∃ post, (∀ (l : Launch) (D : va_G) (cs : Nat → ClassId), l.stackTraces = false → zMt l yX3_digest cX3_digest 4 (some .long) rm_X3_digest D cs F I [.ref (F.1 0)] post) ∧ ∀ r J, post r J → ∃ v : Int, r = some (.long (zJ v)) ∧ ∃ post2, (∀ (l : Launch) (D : va_G) (cs : Nat → ClassId), l.stackTraces = false → zMt l yX4_digest cX4_digest 5 (some .long) rm_X4_digest D cs F J [.ref (F.1 110)] post2) ∧ ∀ r2 K, post2 r2 K → r2 = some (.long (zJ v)) ∧ zRg K ∧ Inv K)
    (kk : ∀ K, Inv K → zRg K → zW G F (cells + 0 + 0) (slots + 0 + 0) K [(4, .int (zI i)), (3, .ref (F.1 129)), (2, .ref (F.1 110)), (1, .ref (F.1 0)), (0, .ref b)] [] 1759) : zW G F cells slots I [(4, .int (zI i)), (3, .ref (F.1 129)), (2, .ref (F.1 110)), (1, .ref (F.1 0)), (0, .ref b)] [] 1745 := by
  obtain ⟨post, hM, hp⟩ := hC
  refine z_aload_n 3 hG dL_law_1745 rfl rfl ?_
  refine z_callV [] hG hR hM hd_X3_digest kw263 kw264 kw265 rfl (zltL hL (by decide)) (zl0 hL.m.c) (by show 3 ≤ _; omega) (by show 72 ≤ _; omega) (by show cells + 0 ≤ _; omega) (by show slots + 0 ≤ _; omega) rfl rfl (Nat.le_of_ble_eq_true rfl) dL_law_1746 (fun r J hq => ?_)
  obtain ⟨v, rfl, post2, hM2, hp2⟩ := hp r J hq
  show zW G F (cells + 0) (slots + 0) J [(4, .int (zI i)), (3, .ref (F.1 129)), (2, .ref (F.1 110)), (1, .ref (F.1 0)), (0, .ref b)] [.long (zJ v)] 1749
  refine z_aload_n 2 hG dL_law_1749 rfl rfl ?_
  refine z_callV [] hG hR hM2 hd_X4_digest kw966 kw967 kw968 rfl (zltL hL (by decide)) (zl110 hL.m) (by show 4 ≤ _; omega) (by show 94 ≤ _; omega) (by show cells + 0 + 0 ≤ _; omega) (by show slots + 0 + 0 ≤ _; omega) rfl rfl (Nat.le_of_ble_eq_true rfl) dL_law_1750 (fun r K hq => ?_)
  obtain ⟨rfl, hrK, hI⟩ := hp2 r K hq
  show zW G F (cells + 0 + 0) (slots + 0 + 0) K [(4, .int (zI i)), (3, .ref (F.1 129)), (2, .ref (F.1 110)), (1, .ref (F.1 0)), (0, .ref b)] [.long (zJ v), .long (zJ v)] 1753
  refine z_lcmpe hG dL_law_1753 ?_
  exact z_if_eq (tgt := 1759) hG dL_law_1754 (by decide) (by decide) (fun _ => kk _ hI hrK) (fun q => absurd rfl q)
