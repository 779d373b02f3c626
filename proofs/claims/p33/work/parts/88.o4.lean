section BW
variable {Z : zCx} {F : zFr} {I B : zStore} {bl b L : Nat} {cS : ClassId} {xs : Nat → Int32}
/-- what build comes to -/
def bPost (r : Option Value) (I : zStore) : Prop := ∃ (B : zStore) (N n m : Nat), r = some (.int (nI m)) ∧ (1 ≤ N ∧ N ≤ 8) ∧ LSt I B N n ∧ rMs I B N n ∧ OVp I N n ∧ bOK m B
theorem mod_ne {f j k N : Nat} (hj : k < j) (hN : j < N) : (f + j) % N ≠ (f + k) % N := by
  intro e
  have h1 := Nat.sub_mod_eq_zero_of_mod_eq e
  rw [show f + j - (f + k) = j - k by omega, Nat.mod_eq_of_lt (by omega)] at h1
  omega
theorem z_widen' {rm : Room} {lv : zLv} {st : List Value} {pc c s c' s' : Nat} (hR : zRoom Z rm) (h1 : c ≤ c') (h2 : s ≤ s') (h3 : c' ≤ rm.cells) (h4 : s' ≤ rm.slots) (k : nW (nZ Z) (zInv Z F I) c' s' lv st pc) : nW (nZ Z) (zInv Z F I) c s lv st pc := n_widen h1 h2 (zN_rm hR) h3 h4 k
theorem s_build_loop2 {N f : Nat} {x : Int32} (hZ : zOK Z "LineLearnerLaw" cL_build 11) (hR : zRoom Z rm_L_build) (hL : zLay F) (hB : bG Z F bl b L cS xs) (hLL : L < 2 ^ 31) (hN : 1 ≤ N ∧ N ≤ 8) (hf : f < N)
    (kk : ∀ (I' : zStore) (m : Nat) (lv : zLv), bPost (some (.int (nI m))) I' → nW (nZ Z) (zInv Z F I') rm_L_build.cells rm_L_build.slots lv [.int (nI m)] 228) :
    ∀ (d k m c s n : Nat) (I' B' : zStore), k + d = N → LSt I' B' N n → rMs I' B' N n → OVp I' N n → bOK m B' → (∀ j, k ≤ j → j < N → zbit (B' 119 0) ((f + j) % N) = 0) → c + 3 * d ≤ 420 → s + 18 * d ≤ 39000 → nW (nZ Z) (zInv Z F I') c s [(8, .int (nI k)), (5, .int (nI m)), (7, .int (nI f)), (6, .int x), (4, .int (nI N)), (0, .ref (F.1 0)), (1, .ref b), (2, .int (nI 0)), (3, .ref bl)] [] 146 := by
  intro d
  induction d with
  | zero =>
    intro k m c s n I' B' hk hS hM hO hb hun hc hs
    have hG := zN_ok hZ
    have hRn := zN_rm hR
    refine n_iload 0 hG dL_build_146 rfl ?_
    refine n_iload 4 hG dL_build_148 rfl ?_
    refine n_icmp_ge (tgt := 226) hG dL_build_150 (by decide) (fun _ => ?_) (fun q9 => absurd (nI_le (by omega) (by omega)) q9)
    refine n_iload 1 hG dL_build_226 rfl ?_
    refine n_widen (k := rm_L_build.cells) (n := rm_L_build.slots) (by omega) (by omega) hRn (Nat.le_refl _) (Nat.le_refl _) ?_
    exact kk I' m _ ⟨B', N, n, m, rfl, hN, hS, hM, hO, hb⟩
  | succ d ih =>
    intro k m c s n I' B' hk hS hM hO hb hun hc hs
    refine s_build_146 hZ hR hL hB hLL hN (by omega) hf hS hM hO hb (hun k (Nat.le_refl _) (by omega)) (by omega) (by omega) ?_ (fun I2 B2 n2 h1 h2 h3 h4 h5 => ?_)
    · exact z_widen' hR (by omega) (by omega) (by show c + 3 ≤ 420; omega) (by show s + 18 ≤ 39000; omega) (ih (k + 1) m (c + 3) (s + 18) n I' B' (by omega) hS hM hO hb (fun j h1 h2 => hun j (by omega) h2) (by omega) (by omega))
    · refine ih (k + 1) _ (c + 3) (s + 18) n2 I2 B2 (by omega) h1 h2 h3 h4 (fun j j1 j2 => ?_) (by omega) (by omega)
      rw [h5, if_neg (mod_ne (by omega) j2)]
      exact hun j (by omega) j2
/-- build's contract -/
def bA (F : zFr) (sz bl : Nat) : Nat → Prop := fun q => zAd F sz q ∨ q = bl
def bPre (D : va_G) (cs : Nat → ClassId) (F : zFr) (I : zStore) (sz bl b L : Nat) (cS : ClassId) (xs : Nat → Int32) (av : List Value) : Array Value → State → Prop := va_Pc av (fun U => U.heap.size = sz ∧ zWo D cs F (bA F sz bl) I U ∧ (∀ k, k < F.2.1 → F.1 k ≠ bl) ∧ (ArrOfT U cS (.object "java/lang/String") ∧ va_RA U cS (.object "java/lang/String")) ∧ va_AO "java/lang/String" U ∧ va_X b L xs U U.heap ∧ b < U.heap.size ∧ ¬ bA F sz bl b ∧ ∃ f, U.heap[bl]? = some (vp_cell cS (bRefs f)))
def bQ (D : va_G) (cs : Nat → ClassId) (F : zFr) (sz bl : Nat) (post : Option Value → zStore → Prop) : Array Value → State → Outcome → State → Prop := fun _ st oc t => (∃ (r : Option Value) (u : zStore), oc = .returned r ∧ post r u ∧ va_P D vwCl (zws cs F u) t.heap) ∧ va_F (bA F sz bl) st t
theorem bPre_blind {D : va_G} {cs : Nat → ClassId} {sz : Nat} {av : List Value} : FrameBlind (bPre D cs F I sz bl b L cS xs av) := by
  intro a U g mk ⟨h1, h2, ⟨w1, w2, w3, w4, w5, w6⟩, h4, h5, h6, h7, h8, h9, h10⟩
  have al : U.vm.Alike (U.calling g mk a).vm := Vm.Alike.refl U.vm
  exact ⟨h1, h2, ⟨w1, va_K.moved (u := U) (U := U.calling g mk a) al w2, w3, fun w hw hs => va_tabsA (w4 w hw hs) hs, w5.moved (u := U) (U := U.calling g mk a) (State.WarmedH.refl U), w6.warm (s := U) (U := U.calling g mk a) (State.WarmedH.refl U)⟩, h4, ⟨arrOfT_moved al h5.1, h5.2.moved al⟩, va_AO.moved (u := U) (U := U.calling g mk a) al h6, va_X.moved (u := U) (U := U.calling g mk a) al h7, h8, h9, h10⟩
set_option maxRecDepth 100000 in
theorem c_L_build {F : zFr} {I B : zStore} {bl b L : Nat} {cS : ClassId} {xs : Nat → Int32} (hL : zLay F) (hLL : L < 2 ^ 31) (hS : LSt I B 0 0) (h0 : B 119 0 = 0) (hM : ∀ N : Nat, N ≤ 8 → ∀ (I' B' : zStore), LSt I' B' N 0 → rMs I' B' N 0) : ∀ (l : Launch) (D : va_G) (cs : Nat → ClassId), l.stackTraces = false → ∀ sz, Met l yL_build [Cond.code yL_build cL_build 11 (some .int)] rm_L_build (bPre D cs F I sz bl b L cS xs [.ref (F.1 0), .ref b, .int (nI 0), .ref bl]) (bQ D cs F sz bl bPost) rm_L_build.cells rm_L_build.slots (bA F sz bl) := by
  intro l D cs hst sz
  refine Met.ofW (cc := cL_build) (maxL := 11) (ret := some .int) (by decide +kernel) rfl ?_
  intro p e s m args below meth c s₁ Bd hml hv
  obtain ⟨rfl, hsz, ⟨hP, hK, hJ, hT, hO, hV⟩, hne, hcS, hAO, hX, hb1, hb2, f, hf⟩ := hv
  subst hsz
  have hl := lv_entry [.ref (F.1 0), .ref b, .int (nI 0), .ref bl] (n := 11) (Nat.le_of_ble_eq_true rfl)
  rw [lg_entry_eq]
  obtain ⟨Qx, hQx⟩ : ∃ Q0 : State → Prop, Q0 = MQ below (bQ D cs F s.heap.size bl bPost) ([.ref (F.1 0), .ref b, .int (nI 0), .ref bl] : List Value).toArray s rm_L_build.cells rm_L_build.slots (bA F s.heap.size bl) := ⟨_, rfl⟩
  rw [← hQx]
  have hZ : zOK (p, l, e, rm_L_build, s, m, ([.ref (F.1 0), .ref b, .int (nI 0), .ref bl] : List Value).toArray, below, meth, c, Qx, bA F s.heap.size bl, 11, D, cs) "LineLearnerLaw" cL_build 11 := ⟨Bd.exec, Bd.bytes, findClass_of_methodNamed Bd.named, hml, rfl, hK, hT, hO, hV, fun q h => Or.inl (Or.inr h), hst⟩
  have hR : zRoom (p, l, e, rm_L_build, s, m, ([.ref (F.1 0), .ref b, .int (nI 0), .ref bl] : List Value).toArray, below, meth, c, Qx, bA F s.heap.size bl, 11, D, cs) rm_L_build := ⟨Nat.le_refl _, Nat.le_refl _, Nat.le_refl _, Nat.le_refl _⟩
  have hB : bG (p, l, e, rm_L_build, s, m, ([.ref (F.1 0), .ref b, .int (nI 0), .ref bl] : List Value).toArray, below, meth, c, Qx, bA F s.heap.size bl, 11, D, cs) F bl b L cS xs := ⟨Or.inr rfl, hne, hcS, hAO, hX, hb1, hb2⟩
  have kw := s_build_0 (pf := fun _ => True) hZ hR hL hB hLL hS h0 (fun N c0 s0 I' B' n1 n2 h1 h2 h3 h4 => s_build_79 hZ hR hL hB hLL ⟨n1, n2⟩ h1 h2 (by omega) (by omega) (fun I2 B2 f2 x c2 s2 g1 g2 g3 g4 g5 => s_build_loop2 hZ hR hL hB hLL ⟨n1, n2⟩ g1 (fun I3 m3 lv3 hp => ?_) N 0 0 c2 s2 0 I2 B2 (by omega) g2 (hM N n2 I2 B2 g2) (Or.inl (by decide)) ⟨by decide, fun l _ => by rw [g3, zbit_z, Nat.zero_testBit]; rfl⟩ (fun j _ _ => by rw [g3, zbit_z]) (by omega) (by omega)))
  · exact kw (Nat.zero_le _) (Nat.zero_le _) s.heap [] _ ⟨⟨hP, zD_of hJ (fun k hk => Or.inl (Or.inl ⟨k, hk, rfl⟩)), va_S.rf⟩, ⟨f, trivial, hf⟩, fun o h => by simp at h⟩ hl
  · intro hc hs H locs ls hJ1 hl1
    obtain ⟨hP1, hD1, hS1⟩ := hJ1
    subst hQx
    exact W.iret (v := nI m3) Bd.exec Bd.bytes Bd.returns (fun t ht hW => ⟨⟨_, I3, rfl, hp, by rw [ht]; exact hP1⟩, hS1.F ht⟩) hS1.2.2 dL_build_228 Bd.notSynchronized
end BW
