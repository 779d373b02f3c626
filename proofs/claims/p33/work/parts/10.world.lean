abbrev vwCl : List vw_C := [(RX0, TX0, 10), (RX1, TX1, 8), (RX2, TX2, 8), (RX3, TX3, 11)]

/-! numbers: an int of the machine is zI of an Int, a long zJ of an Int -/
def zI (z : Int) : Int32 := Int32.ofInt z
def zJ (z : Int) : Int64 := Int64.ofInt z
theorem zbm32 {z : Int} (h1 : -2147483648 ≤ z) (h2 : z < 2147483648) : z.bmod (2 ^ 32) = z := Int.bmod_eq_of_le (by omega) (by omega)
theorem zbm64 {z : Int} (h1 : -9223372036854775808 ≤ z) (h2 : z < 9223372036854775808) : z.bmod (2 ^ 64) = z := Int.bmod_eq_of_le (by omega) (by omega)
theorem zbm8 {z : Int} (h1 : -128 ≤ z) (h2 : z < 128) : z.bmod (2 ^ 8) = z := Int.bmod_eq_of_le (by omega) (by omega)
theorem zI_toInt {z : Int} (h1 : -2147483648 ≤ z) (h2 : z < 2147483648) : (zI z).toInt = z := by
  unfold zI
  rw [Int32.toInt_ofInt]
  exact zbm32 h1 h2
theorem zI_of (x : Int32) : zI x.toInt = x := Int32.ofInt_toInt x
theorem zI_rng (x : Int32) : -2147483648 ≤ x.toInt ∧ x.toInt < 2147483648 := by
  have h1 := Int32.le_toInt x
  have h2 := Int32.toInt_lt x
  omega
theorem zI_add (a b : Int) : zI a + zI b = zI (a + b) := by
  unfold zI; apply Int32.toInt_inj.mp; rw [Int32.toInt_add]; simp only [Int32.toInt_ofInt]; simp
theorem zI_sub (a b : Int) : zI a - zI b = zI (a - b) := by
  unfold zI; apply Int32.toInt_inj.mp; rw [Int32.toInt_sub]; simp only [Int32.toInt_ofInt]; simp
theorem zI_mul (a b : Int) : zI a * zI b = zI (a * b) := by
  unfold zI; apply Int32.toInt_inj.mp; rw [Int32.toInt_mul]; simp only [Int32.toInt_ofInt]; simp
theorem zI_le {a b : Int} (h1 : -2147483648 ≤ a ∧ a < 2147483648) (h2 : -2147483648 ≤ b ∧ b < 2147483648) : zI a ≤ zI b ↔ a ≤ b := by
  rw [Int32.le_iff_toInt_le, zI_toInt h1.1 h1.2, zI_toInt h2.1 h2.2]
theorem zI_lt {a b : Int} (h1 : -2147483648 ≤ a ∧ a < 2147483648) (h2 : -2147483648 ≤ b ∧ b < 2147483648) : zI a < zI b ↔ a < b := by
  rw [Int32.lt_iff_toInt_lt, zI_toInt h1.1 h1.2, zI_toInt h2.1 h2.2]
theorem zI_eq {a b : Int} (h1 : -2147483648 ≤ a ∧ a < 2147483648) (h2 : -2147483648 ≤ b ∧ b < 2147483648) : zI a = zI b ↔ a = b := by
  rw [← Int32.toInt_inj, zI_toInt h1.1 h1.2, zI_toInt h2.1 h2.2]
theorem zI_clamp {z : Int} (h1 : 0 ≤ z) (h2 : z < 2147483648) : (((zI z).toNatClampNeg : Nat) : Int) = z := by
  have h := zI_toInt (z := z) (by omega) h2
  have h3 : (zI z).toNatClampNeg = (zI z).toInt.toNat := rfl
  rw [h3, h]; omega
theorem zI_in {z : Int} {n : Nat} (h1 : 0 ≤ z) (h2 : z < (n : Int)) (hn : n ≤ 2147483647) : vp_in (zI z) n := by
  rintro (h | h)
  · have := (zI_lt (a := z) (b := 0) (by omega) (by omega)).mp h
    omega
  · have h3 := zI_clamp (z := z) h1 (by omega)
    omega
theorem zI_wide {z : Int} (h1 : -2147483648 ≤ z ∧ z < 2147483648) : (zI z).toInt64 = zJ z := by
  apply Int64.toInt_inj.mp
  rw [Int32.toInt_toInt64, zI_toInt h1.1 h1.2]
  unfold zJ
  rw [Int64.toInt_ofInt]
  exact (zbm64 (z := z) (by omega) (by omega)).symm
theorem zJ_toInt {z : Int} (h1 : -9223372036854775808 ≤ z) (h2 : z < 9223372036854775808) : (zJ z).toInt = z := by
  unfold zJ
  rw [Int64.toInt_ofInt]
  exact zbm64 (by omega) (by omega)
theorem zJ_of (x : Int64) : zJ x.toInt = x := Int64.ofInt_toInt x
theorem zJ_add (a b : Int) : zJ a + zJ b = zJ (a + b) := by
  unfold zJ; apply Int64.toInt_inj.mp; rw [Int64.toInt_add]; simp only [Int64.toInt_ofInt]; simp
theorem zJ_mul (a b : Int) : zJ a * zJ b = zJ (a * b) := by
  unfold zJ; apply Int64.toInt_inj.mp; rw [Int64.toInt_mul]; simp only [Int64.toInt_ofInt]; simp
theorem zJ_lt {a b : Int} (h1 : -2147483648 ≤ a ∧ a < 2147483648) (h2 : -2147483648 ≤ b ∧ b < 2147483648) : zJ a < zJ b ↔ a < b := by
  rw [Int64.lt_iff_toInt_lt, zJ_toInt (by omega) (by omega), zJ_toInt (by omega) (by omega)]
theorem zJ_eq {a b : Int} (h1 : -2147483648 ≤ a ∧ a < 2147483648) (h2 : -2147483648 ≤ b ∧ b < 2147483648) : zJ a = zJ b ↔ a = b := by
  rw [← Int64.toInt_inj, zJ_toInt (by omega) (by omega), zJ_toInt (by omega) (by omega)]
theorem zI_byte {z : Int} (h1 : -128 ≤ z) (h2 : z < 128) : (zI z).toInt8.toInt32 = zI z := by
  apply Int32.toInt_inj.mp
  rw [Int8.toInt_toInt32, Int32.toInt_toInt8, zI_toInt (by omega) (by omega)]
  exact zbm8 h1 h2
/-! words: what the tables say, at any state of the run -/
def zst (w : Cond) : Bool := match w with
  | .arrayClass _ => true
  | .fieldLinkNest .. => true
  | .methodLinkNest .. => true
  | w => w.onTables && w.keepsFace
theorem zst_warm {w : Cond} (hw : zst w = true) {A A' : Array Value} {s U : State} (hW : s.WarmedH U.vm) (h : w.before A s = true) : w.before A' U = true := by
  by_cases h1 : (w.onTables && w.keepsFace) = true
  · simp only [Bool.and_eq_true] at h1
    have h2 : w.before A (s.setVm U.vm) = true := Cond.before_shiftedFace (State.Shifted.of_warmed hW) w h1.2 h
    exact va_tabs (u := s.setVm U.vm) h1.1 rfl h2
  · cases w with
    | arrayClass ty => exact word_at hW (Or.inr ⟨ty, rfl⟩) h
    | fieldLinkNest a i b n d x => exact va_Nw.use rfl (va_Nw.warmF hW (va_Nw.of rfl h))
    | methodLinkNest a i x y => exact va_Nw.use rfl (va_Nw.warmM hW (va_Nw.of rfl h))
    | _ => exact absurd hw h1
def zTb (U : State) : Prop := ∀ w ∈ lw_tbl, zst w = true → w.before #[] U = true
theorem zTb.warm {s U : State} (hW : s.WarmedH U.vm) (h : zTb s) : zTb U := fun w hw h1 => zst_warm h1 hW (h w hw h1)
abbrev zWd (w : Cond) : Prop := w ∈ lw_tbl ∧ zst w = true
theorem zTb.at {s : State} (h : zTb s) {w : Cond} (hw : zWd w) (A : Array Value) : w.before A s = true := zst_warm hw.2 (State.WarmedH.refl s) (h w hw.1 hw.2)

/-! what lies outside of the objects: two statics of Throwable, String's COMPACT_STRINGS, the law's literals, the texts of the throws -/
def zStrs : List (Nat × String) := [(57, "a byte is not 0 or 32 to 126"), (68, "the buffer would get more than 30 bytes"), (78, "there are 12 lines"), (265, "there is no such line"), (267, "there is no such token"), (125, "a cost is not 0 to 20"), (131, "the line is merged already"), (141, "the format would have more than 40 slots"), (269, "there is no such slot")]
/-- the law's literals: their places in the pool, their texts, their bytes -/
def sxT : List (Nat × String × List Nat) := [(11, "user", [117, 115, 101, 114]), (13, "job", [106, 111, 98]), (15, " ", [32]), (17, "12", [49, 50]), (19, "7", [55]), (21, "305", [51, 48, 53]), (23, "=", [61]), (25, "ok", [111, 107]), (27, "  ", [32, 32]), (29, "x", [120]), (31, ":", [58]), (33, "00981", [48, 48, 57, 56, 49]), (35, "Failed", [70, 97, 105, 108, 101, 100]), (37, "-", [45]), (39, "a1", [97, 49]), (41, "", [])]
def sxB (i : Nat) : List Nat := (sxT.getD i (0, "", [])).2.2
/-- a String of Latin-1 letters that lies outside: its bytes -/
def oStr (A : Nat → Prop) (U : State) (H : Heap) (a va : Nat) (bs : List Nat) : Prop := va_O "java/lang/String" a A U H ∧ va_OF "java/lang/String" "coder" "B" (.int 0) a A U H ∧ va_OF "java/lang/String" "value" "[B" (.ref va) a A U H ∧ va_T .byte va bs.length (fun j => .int (nI (bs.getD j 0))) A U H
theorem oStr.kept {A : Nat → Prop} {U : State} {H H1 : Heap} {a va : Nat} {bs : List Nat} (h : oStr A U H a va bs) (hq : ∀ a : Nat, a < H.size → ¬ A a → H1[a]? = H[a]?) : oStr A U H1 a va bs := ⟨h.1.kept hq, h.2.1.kept hq, h.2.2.1.kept hq, h.2.2.2.kept hq⟩
theorem oStr.moved {A : Nat → Prop} {u U : State} {H : Heap} {a va : Nat} {bs : List Nat} (hvm : u.vm.Alike U.vm) (h : oStr A u H a va bs) : oStr A U H a va bs := ⟨h.1.moved hvm, h.2.1.moved hvm, h.2.2.1.moved hvm, h.2.2.2.moved hvm⟩
theorem oStr.narrow {A B : Nat → Prop} {U : State} {H : Heap} {a va : Nat} {bs : List Nat} (h : oStr A U H a va bs) (hAB : ∀ q, B q → A q) : oStr B U H a va bs := ⟨h.1.narrow hAB, h.2.1.narrow hAB, h.2.2.1.narrow hAB, h.2.2.2.narrow hAB⟩
def zTexts (A : Nat → Prop) (U : State) (H : Heap) : Prop := va_Z "java/lang/String" "COMPACT_STRINGS" "Z" (.int 1) A U H ∧ va_Zq "jdk/internal/util/Preconditions" "SIOOBE_FORMATTER" "Ljava/util/function/BiFunction;" A U H ∧ ∃ adK adV : Nat → Nat, ∀ i : Nat, i < 16 → oStr A U H (adK i) (adV i) (sxB i) ∧ vk_R "LineLearnerLaw" (sxT.getD i (0, "", [])).1 (sxT.getD i (0, "", [])).2.1 (adK i) U
def zOutH (A : Nat → Prop) (U : State) (H : Heap) : Prop := vx_Zq Bundle.tN "UNASSIGNED_STACK" Bundle.steD A U H ∧ vx_Zq Bundle.tN "SUPPRESSED_SENTINEL" Bundle.listD A U H ∧ zTexts A U H
def zOutV (U : State) : Prop := ∀ q ∈ zStrs, ∃ sa, vk_R "LineLearner" q.1 q.2 sa U
theorem zOutH.kept {A : Nat → Prop} {U : State} {H H1 : Heap} (h : zOutH A U H) (hq : ∀ a : Nat, a < H.size → ¬ A a → H1[a]? = H[a]?) : zOutH A U H1 := by
  obtain ⟨h1, h2, h3, h4, adK, adV, h5⟩ := h
  exact ⟨h1.kept hq, h2.kept hq, h3.kept hq, h4.kept hq, adK, adV, fun i hi => ⟨(h5 i hi).1.kept hq, (h5 i hi).2⟩⟩
theorem zOutH.moved {A : Nat → Prop} {u U : State} {H : Heap} (hW : u.WarmedH U.vm) (h : zOutH A u H) : zOutH A U H := by
  obtain ⟨h1, h2, h3, h4, adK, adV, h5⟩ := h
  exact ⟨h1.moved hW.alike, h2.moved hW.alike, h3.moved hW.alike, h4.moved hW.alike, adK, adV, fun i hi => ⟨(h5 i hi).1.moved hW.alike, (h5 i hi).2.warm hW⟩⟩
theorem zOutH.narrow {A B : Nat → Prop} {U : State} {H : Heap} (h : zOutH A U H) (hAB : ∀ q, B q → A q) : zOutH B U H := by
  obtain ⟨h1, h2, h3, h4, adK, adV, h5⟩ := h
  exact ⟨h1.narrow hAB, h2.narrow hAB, h3.narrow hAB, h4.narrow hAB, adK, adV, fun i hi => ⟨(h5 i hi).1.narrow hAB, (h5 i hi).2⟩⟩
theorem zOutV.warm {s U : State} (hW : s.WarmedH U.vm) (h : zOutV s) : zOutV U := by
  intro q hq
  obtain ⟨sa, h1⟩ := h q hq
  exact ⟨sa, h1.warm hW⟩
/-! the store: what the cell k holds at the place i; the layout: what kind of cell k is -/
abbrev zStore : Type := Nat → Int → Int
abbrev zSpec : Type := (Nat × List (Option (Option Nat))) ⊕ ((Nat × Nat) ⊕ List (Option Nat))
abbrev zFr : Type := (Nat → Nat) × Nat × (Nat → zSpec)
def zup (I : zStore) (k : Nat) (i v : Int) : zStore := fun a b => if a = k ∧ b = i then v else I a b
theorem zup_at (I : zStore) (k : Nat) (i v : Int) : zup I k i v k i = v := by simp [zup]
theorem zup_k {I : zStore} {k a : Nat} {i v b : Int} (h : a ≠ k) : zup I k i v a b = I a b := by simp [zup, h]
theorem zup_i {I : zStore} {k a : Nat} {i v b : Int} (h : b ≠ i) : zup I k i v a b = I a b := by simp [zup, h]
def zfv (ad : Nat → Nat) (row : Int → Int) : Nat → List (Option (Option Nat)) → List Value
  | _, [] => []
  | j, none :: r => .int (zI (row j)) :: zfv ad row (j + 1) r
  | j, some none :: r => .null :: zfv ad row (j + 1) r
  | j, some (some t) :: r => .ref (ad t) :: zfv ad row (j + 1) r
theorem zfv_int {ad : Nat → Nat} {row : Int → Int} : ∀ {fs : List (Option (Option Nat))} {j k : Nat}, fs[k]? = some none → (zfv ad row j fs)[k]? = some (.int (zI (row ((j + k : Nat) : Int))))
  | none :: r, j, 0, _ => rfl
  | some none :: r, j, 0, h => by cases h
  | some (some t) :: r, j, 0, h => by cases h
  | x :: r, j, k + 1, h => by
    have h1 := zfv_int (ad := ad) (row := row) (fs := r) (j := j + 1) (k := k) h
    rw [show j + (k + 1) = j + 1 + k by omega]
    rcases x with _ | _ | t <;> exact h1
theorem zfv_ref {ad : Nat → Nat} {row : Int → Int} : ∀ {fs : List (Option (Option Nat))} {j k t : Nat}, fs[k]? = some (some (some t)) → (zfv ad row j fs)[k]? = some (.ref (ad t))
  | none :: r, j, 0, t, h => by cases h
  | some none :: r, j, 0, t, h => by cases h
  | some (some t') :: r, j, 0, t, h => by cases h; rfl
  | x :: r, j, k + 1, t, h => by
    have h1 := zfv_ref (ad := ad) (row := row) (fs := r) (j := j + 1) (k := k) (t := t) h
    rcases x with _ | _ | t <;> exact h1
theorem zfv_len {ad : Nat → Nat} {row : Int → Int} : ∀ {fs : List (Option (Option Nat))} {j : Nat}, (zfv ad row j fs).length = fs.length
  | [], _ => rfl
  | x :: r, j => by
    have h1 := zfv_len (ad := ad) (row := row) (fs := r) (j := j + 1)
    rcases x with _ | _ | t <;> (simp only [zfv, List.length_cons]; rw [h1])
theorem zfv_eq {ad : Nat → Nat} {row row' : Int → Int} : ∀ {fs : List (Option (Option Nat))} {j : Nat}, (∀ i : Nat, j ≤ i → row (i : Int) = row' (i : Int)) → zfv ad row j fs = zfv ad row' j fs
  | [], _, _ => rfl
  | x :: r, j, h => by
    have h1 := zfv_eq (ad := ad) (row := row) (row' := row') (fs := r) (j := j + 1) (fun i hi => h i (by omega))
    have h2 := h j (Nat.le_refl j)
    rcases x with _ | _ | t
    · simp only [zfv]; rw [h1, h2]
    · simp only [zfv]; rw [h1]
    · simp only [zfv]; rw [h1]
theorem zfv_put {ad : Nat → Nat} {row row' : Int → Int} {v : Int} : ∀ {fs : List (Option (Option Nat))} {j k : Nat}, fs[k]? = some none → row' ((j + k : Nat) : Int) = v → (∀ i : Nat, i ≠ j + k → row' (i : Int) = row (i : Int)) → (zfv ad row j fs).set k (.int (zI v)) = zfv ad row' j fs
  | none :: r, j, 0, _, h1, h2 => by
    subst h1
    show _ :: _ = _ :: _
    congr 1
    exact zfv_eq fun i hi => (h2 i (by omega)).symm
  | some none :: r, j, 0, h, _, _ => by cases h
  | some (some t) :: r, j, 0, h, _, _ => by cases h
  | x :: r, j, k + 1, h, h1, h2 => by
    have h3 := zfv_put (ad := ad) (row := row) (row' := row') (v := v) (fs := r) (j := j + 1) (k := k) h (by rw [← h1]; congr 2; omega) (fun i hi => h2 i (by omega))
    have h4 : row' (j : Int) = row (j : Int) := h2 j (by omega)
    rcases x with _ | _ | t
    · show _ :: _ = _ :: _
      rw [h4]; congr 1
    · show _ :: _ = _ :: _
      congr 1
    · show _ :: _ = _ :: _
      congr 1

def zar (t : Nat) (row : Int → Int) : (Nat → Int32) ⊕ (Nat → Int64) ⊕ (Nat → UInt32) ⊕ (Nat → UInt64) ⊕ (Nat → Option Nat) := if t = 3 then .inr (.inl (fun j => zJ (row (j : Int)))) else .inl (fun j => zI (row (j : Int)))
def zE (cs : Nat → ClassId) (F : zFr) (I : zStore) (k : Nat) : va_E := match F.2.2 k with
  | .inl q => .inr (q.1, zfv F.1 (I k) 0 q.2)
  | .inr (.inl q) => .inl (cs q.1, q.2, zar q.1 (I k))
  | .inr (.inr r) => .inl (cs 4, r.length, .inr (.inr (.inr (.inr (fun j => (r.getD j none).map F.1)))))
def zws (cs : Nat → ClassId) (F : zFr) (I : zStore) : va_W := (List.range F.2.1).map (fun k => (F.1 k, zE cs F I k))
theorem zE_obj {cs : Nat → ClassId} {F : zFr} {I : zStore} {k ci : Nat} {fs : List (Option (Option Nat))} (h : F.2.2 k = .inl (ci, fs)) : zE cs F I k = .inr (ci, zfv F.1 (I k) 0 fs) := by unfold zE; rw [h]
theorem zE_arr {cs : Nat → ClassId} {F : zFr} {I : zStore} {k t n : Nat} (h : F.2.2 k = .inr (.inl (t, n))) : zE cs F I k = .inl (cs t, n, zar t (I k)) := by unfold zE; rw [h]
theorem zE_row {cs : Nat → ClassId} {F : zFr} {I : zStore} {k : Nat} {r : List (Option Nat)} (h : F.2.2 k = .inr (.inr r)) : zE cs F I k = .inl (cs 4, r.length, .inr (.inr (.inr (.inr (fun j => (r.getD j none).map F.1))))) := by unfold zE; rw [h]
theorem zws_get {cs : Nat → ClassId} {F : zFr} {I : zStore} {k : Nat} (h : k < F.2.1) : (zws cs F I)[k]? = some (F.1 k, zE cs F I k) := by
  unfold zws
  rw [List.getElem?_map, List.getElem?_range h]; rfl
theorem zws_len {cs : Nat → ClassId} {F : zFr} {I : zStore} : (zws cs F I).length = F.2.1 := by simp [zws]
theorem zws_set {cs : Nat → ClassId} {F : zFr} {I I' : zStore} {k : Nat} {e : va_E} (h : k < F.2.1) (he : zE cs F I' k = e) (ho : ∀ j, j < F.2.1 → j ≠ k → zE cs F I' j = zE cs F I j) : (zws cs F I).set k (F.1 k, e) = zws cs F I' := by
  apply List.ext_getElem?
  intro j
  rw [List.getElem?_set]
  by_cases hj : k = j
  · subst hj
    rw [if_pos rfl, if_pos (by rw [zws_len]; exact h), zws_get h, he]
  · rw [if_neg hj]
    by_cases hn : j < F.2.1
    · rw [zws_get hn, zws_get hn, ho j hn (Ne.symm hj)]
    · rw [List.getElem?_eq_none (by rw [zws_len]; omega), List.getElem?_eq_none (by rw [zws_len]; omega)]
theorem zE_congr {cs : Nat → ClassId} {F : zFr} {I I' : zStore} {k : Nat} (h : ∀ i, I' k i = I k i) : zE cs F I' k = zE cs F I k := by
  have h1 : I' k = I k := funext h
  unfold zE; rw [h1]
theorem zws_up {cs : Nat → ClassId} {F : zFr} {I : zStore} {k : Nat} {i v : Int} {e : va_E} (h : k < F.2.1) (he : zE cs F (zup I k i v) k = e) : (zws cs F I).set k (F.1 k, e) = zws cs F (zup I k i v) :=
  zws_set h he fun j _ hj => zE_congr fun b => zup_k hj
def zAd (F : zFr) (sz : Nat) : Nat → Prop := fun q => (∃ k, k < F.2.1 ∧ q = F.1 k) ∨ sz ≤ q
theorem zD_inj {cs : Nat → ClassId} {F : zFr} {I : zStore} {A : Nat → Prop} (h : va_D A (zws cs F I)) : ∀ i j, i < F.2.1 → j < F.2.1 → F.1 i = F.1 j → i = j :=
  fun i j hi hj e => h.1 i j _ _ (zws_get hi) (zws_get hj) e
theorem zD_in {cs : Nat → ClassId} {F : zFr} {I : zStore} {A : Nat → Prop} (h : va_D A (zws cs F I)) {k : Nat} (hk : k < F.2.1) : A (F.1 k) := h.2 k _ (zws_get hk)
theorem zD_of {cs : Nat → ClassId} {F : zFr} {I : zStore} {A : Nat → Prop} (h : ∀ i j, i < F.2.1 → j < F.2.1 → F.1 i = F.1 j → i = j) (hA : ∀ k, k < F.2.1 → A (F.1 k)) : va_D A (zws cs F I) := by
  have hlt : ∀ (k : Nat) (q : Nat × va_E), (zws cs F I)[k]? = some q → k < F.2.1 ∧ q.1 = F.1 k := by
    intro k q hq
    have h1 : k < F.2.1 := by
      have := (List.getElem?_eq_some_iff.mp hq).1
      rwa [zws_len] at this
    refine ⟨h1, ?_⟩
    rw [zws_get h1] at hq
    exact (congrArg Prod.fst (Option.some.inj hq)).symm
  refine ⟨fun i j p q hi hj e => ?_, fun k q hq => ?_⟩
  · have h1 := hlt i p hi
    have h2 := hlt j q hj
    exact h i j h1.1 h2.1 (by rw [← h1.2, ← h2.2]; exact e)
  · have h1 := hlt k q hq
    rw [h1.2]; exact hA k h1.1
def ztys (cs : Nat → ClassId) : List (ClassId × FieldType) := [(cs 0, .int), (cs 1, .byte), (cs 2, .boolean), (cs 3, .int), (cs 4, .object "LineLearner$Format")]
