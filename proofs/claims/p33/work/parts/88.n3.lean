/-! the frame of 'line': an array of Strings, a builder, Strings outside of both -/
theorem oStr.of {A : Nat → Prop} {s : State} {H : Heap} {D : va_G} {cB : ClassId} {tys : List (ClassId × FieldType)} {a x n : Nat} {g : Nat → Int32} {bs : List Nat} (hT : zTb s) (hK : va_K D jCl ((cB, .byte) :: tys) s) (hP : va_P D jCl [jS a x, jA cB x n g] H) (hn : n = bs.length) (hg : ∀ j, j < n → g j = nI (bs.getD j 0)) (ha : ¬ A a) (hx : ¬ A x) : oStr A s H a x bs := by
  subst hn
  obtain ⟨r, hr, cell, h1, h2, h3, h4⟩ := hP 0 _ rfl
  cases hr
  have k0 := hK.1 0 _ rfl
  obtain ⟨hS, hfc, kC, hkC, hkind⟩ := k0
  have hl : ∀ k, k < 4 → (Cond.lays RJ0 (TJ0 k).1 (TJ0 k).2.1 (TJ0 k).2.2.1).before #[] s = true ∨ (Cond.laysFinal RJ0 (TJ0 k).1 (TJ0 k).2.1 (TJ0 k).2.2.1).before #[] s = true := fun k hk => u_lays (ws := u_ws RJ0 TJ0 4) (fun w hw => hT.at (ycl0.2.1 w hw) _) (fun _ h => h) hk
  have fld : ∀ k, k < 4 → va_OF (TJ0 k).1 (TJ0 k).2.1 (TJ0 k).2.2.1 (vp_V [.ref x, .int 0, .int 0, .int 0] k) a A s H := fun k hk => by
    obtain ⟨cf, kf, fi, fd, hi, he⟩ := hS k hk
    refine ⟨cf, kf, fi, fd, cell, hi, (u_facts hfc hkC (hl k hk) hi).1, h1, (by rw [h3]; intro h; cases h), ?_, ha⟩
    rw [he]
    exact h4 k hk
  refine ⟨⟨cell, h1, by rw [h3]; rfl, by rw [h2]; exact hfc, ha⟩, fld 1 (by decide), fld 0 (by decide), ?_⟩
  have hA1 : H[x]? = some (vp_cell cB (bs.length, .inl g)) := hP 1 _ rfl
  refine ⟨_, hA1, (hK.2 0 _ rfl).1 _ _, (fun h => by cases h), ?_, ?_, fun j hj => ?_, hx⟩
  · rw [vp_cell_i, arrV_size]
    exact Nat.le_refl _
  · rw [vp_cell_i, arrV_size] <;> rfl
  · rw [vp_cell_i, arrV_read _ _ hj, hg j hj]
/-- what lies outside, with the literals' places -/
def zTx (adK adV : Nat → Nat) (A : Nat → Prop) (U : State) (H : Heap) : Prop := va_Z "java/lang/String" "COMPACT_STRINGS" "Z" (.int 1) A U H ∧ va_Zq "jdk/internal/util/Preconditions" "SIOOBE_FORMATTER" "Ljava/util/function/BiFunction;" A U H ∧ ∀ i : Nat, i < 16 → oStr A U H (adK i) (adV i) (sxB i) ∧ vk_R "LineLearnerLaw" (sxT.getD i (0, "", [])).1 (sxT.getD i (0, "", [])).2.1 (adK i) U
theorem zTx.kept {adK adV : Nat → Nat} {A : Nat → Prop} {U : State} {H H1 : Heap} (h : zTx adK adV A U H) (hq : ∀ a : Nat, a < H.size → ¬ A a → H1[a]? = H[a]?) : zTx adK adV A U H1 := ⟨h.1.kept hq, h.2.1.kept hq, fun i hi => ⟨(h.2.2 i hi).1.kept hq, (h.2.2 i hi).2⟩⟩
theorem zTx.moved {adK adV : Nat → Nat} {A : Nat → Prop} {u U : State} {H : Heap} (hW : u.WarmedH U.vm) (h : zTx adK adV A u H) : zTx adK adV A U H := ⟨h.1.moved hW.alike, h.2.1.moved hW.alike, fun i hi => ⟨(h.2.2 i hi).1.moved hW.alike, (h.2.2 i hi).2.warm hW⟩⟩
theorem zTx.narrow {adK adV : Nat → Nat} {A B : Nat → Prop} {U : State} {H : Heap} (h : zTx adK adV A U H) (hAB : ∀ q, B q → A q) : zTx adK adV B U H := ⟨h.1.narrow hAB, h.2.1.narrow hAB, fun i hi => ⟨(h.2.2 i hi).1.narrow hAB, (h.2.2 i hi).2⟩⟩
theorem zTexts.ex {A : Nat → Prop} {U : State} {H : Heap} (h : zTexts A U H) : ∃ adK adV, zTx adK adV A U H := by
  obtain ⟨h1, h2, adK, adV, h3⟩ := h
  exact ⟨adK, adV, h1, h2, h3⟩
/-- a String that the method made -/
def qD (D : va_G) (cB : ClassId) (H : Heap) (o : oSt) : Prop := ∃ g : Nat → Int32, (∀ j, j < o.2.2.length → g j = nI (o.2.2.getD j 0)) ∧ va_P D jCl [jS o.1 o.2.1, jA cB o.2.1 o.2.2.length g] H
theorem qD.kept {D : va_G} {cB : ClassId} {H H1 : Heap} {o : oSt} (h : qD D cB H o) (h1 : H1[o.1]? = H[o.1]?) (h2 : H1[o.2.1]? = H[o.2.1]?) : qD D cB H1 o := by
  obtain ⟨g, hg, hP⟩ := h
  refine ⟨g, hg, hP.kept fun k q hk => ?_⟩
  match k, hk with
  | 0, hk => cases hk; exact h1
  | 1, hk => cases hk; exact h2
  | k + 2, hk => simp at hk
abbrev qRefs (cS : ClassId) (ar n : Nat) (f : Nat → Option Nat) : Nat × va_E := (ar, .inl (cS, n, .inr (.inr (.inr (.inr f)))))
/-- the world: ws; Strings outside: os; of them made here: ds -/
def qP (G : nCx) (D : va_G) (cB : ClassId) (ws : va_W) (os ds : List oSt) (H : Heap) : Prop := va_P D jCl ws H ∧ va_D (fun q => (nS G).heap.size ≤ q) ws ∧ (∀ o ∈ os, oStr (va_A ws H.size) (nS G) H o.1 o.2.1 o.2.2) ∧ ∀ o ∈ ds, qD D cB H o ∧ ¬ va_A ws H.size o.1 ∧ ¬ va_A ws H.size o.2.1 ∧ (nS G).heap.size ≤ o.1 ∧ (nS G).heap.size ≤ o.2.1
/-- the array of Strings, its first k places filled, and the world ws behind it -/
def qL (G : nCx) (D : va_G) (cB cS : ClassId) (adK : Nat → Nat) (ar k : Nat) (ws : va_W) (os ds : List oSt) (H : Heap) : Prop := ∃ f : Nat → Option Nat, (∀ j, j < k → f j = some (adK j)) ∧ qP G D cB (qRefs cS ar 15 f :: ws) os ds H
/-- what is known at the entry -/
def qG (G : nCx) (D : va_G) (cB : ClassId) (adK adV : Nat → Nat) : Prop := va_K D jCl [(cB, .byte)] (nS G) ∧ zTx adK adV (fun q => (nS G).heap.size ≤ q) (nS G) (nS G).heap ∧ va_AO "java/lang/String" (nS G)
theorem qA_cons {x : Nat × va_E} {ws : va_W} {sz q : Nat} : va_A (x :: ws) sz q ↔ q = x.1 ∨ va_A ws sz q := by
  constructor
  · rintro (⟨k, e, h⟩ | h)
    · cases k with
      | zero => cases h; exact Or.inl rfl
      | succ k => exact Or.inr (Or.inl ⟨k, e, h⟩)
    · exact Or.inr (Or.inr h)
  · rintro (rfl | ⟨k, e, h⟩ | h)
    · exact Or.inl ⟨0, x.2, rfl⟩
    · exact Or.inl ⟨k + 1, e, h⟩
    · exact Or.inr h
theorem qA_mono {ws : va_W} {a b q : Nat} (h : a ≤ b) (hq : va_A ws b q) : va_A ws a q := by
  rcases hq with h1 | h1
  · exact Or.inl h1
  · exact Or.inr (by omega)
theorem va_D.tail {A : Nat → Prop} {x : Nat × va_E} {ws : va_W} (h : va_D A (x :: ws)) : va_D A ws ∧ (∀ (k : Nat) (q : Nat × va_E), ws[k]? = some q → q.1 ≠ x.1) := by
  refine ⟨⟨fun i j p q hi hj hpq => ?_, fun k q hk => h.2 (k + 1) q hk⟩, fun k q hk e => ?_⟩
  · have := h.1 (i + 1) (j + 1) p q hi hj hpq
    omega
  · have := h.1 (k + 1) 0 q x hk rfl e
    omega
theorem va_D.cons {A : Nat → Prop} {x : Nat × va_E} {ws : va_W} (h : va_D A ws) (hx : A x.1) (hne : ∀ (k : Nat) (q : Nat × va_E), ws[k]? = some q → q.1 ≠ x.1) : va_D A (x :: ws) := by
  refine ⟨fun i j p q hi hj hpq => ?_, fun k q hk => ?_⟩
  · cases i with
    | zero =>
      cases hi
      cases j with
      | zero => rfl
      | succ j => exact absurd hpq.symm (hne j q hj)
    | succ i =>
      cases j with
      | zero => cases hj; exact absurd hpq (hne i p hi)
      | succ j => rw [h.1 i j p q hi hj hpq]
  · cases k with
    | zero => cases hk; exact hx
    | succ k => exact h.2 k q hk
theorem va_P.cons {D : va_G} {cl : List vw_C} {x : Nat × va_E} {ws : va_W} {H : Heap} : va_P D cl (x :: ws) H ↔ va_at D cl x H ∧ va_P D cl ws H := by
  constructor
  · exact fun h => ⟨h 0 x rfl, fun k q hk => h (k + 1) q hk⟩
  · rintro ⟨h1, h2⟩ k q hk
    cases k with
    | zero => cases hk; exact h1
    | succ k => exact h2 k q hk
/-- behind a call that was given ws -/
theorem qL.back {G : nCx} {D : va_G} {cB cS : ClassId} {adK : Nat → Nat} {ar k : Nat} {ws w : va_W} {os ds : List oSt} {H H1 : Heap} {locs L : List Loc} (h : uJ G (qL G D cB cS adK ar k ws os ds) H locs) (hP1 : va_P D jCl w H1) (hD1 : va_D (va_A ws H.size) w) (h1 : H.size ≤ H1.size) (h2 : ∀ q : Nat, q < H.size → ¬ va_A ws H.size q → H1[q]? = H[q]?) (hL : ∀ q ∈ L, va_A ws H.size q.base) : uJ G (qL G D cB cS adK ar k w os ds) H1 (locs ++ L) := by
  obtain ⟨hS, f, hf, hP, hD, hos, hds⟩ := h
  obtain ⟨hDt, hne⟩ := hD.tail
  have hP' := va_P.cons.mp hP
  have hin : ∀ q, va_A ws H.size q → (nS G).heap.size ≤ q := by
    rintro q (⟨k, e, hk⟩ | hq)
    · exact hDt.2 k _ hk
    · exact Nat.le_trans hS.1 hq
  have har : ar < H.size := hP'.1.lt
  have harA : ¬ va_A ws H.size ar := by
    rintro (⟨k, e, hk⟩ | hq)
    · exact hne k _ hk rfl
    · omega
  have hnar : ∀ q, va_A (qRefs cS ar 15 f :: w) H1.size q → va_A (qRefs cS ar 15 f :: ws) H.size q := by
    intro q hq
    rcases qA_cons.mp hq with e | ⟨k, e, hk⟩ | hq
    · exact qA_cons.mpr (Or.inl e)
    · exact qA_cons.mpr (Or.inr (hD1.2 k _ hk))
    · exact Or.inr (by omega)
  have hsub : ∀ q, q < H.size → ¬ va_A (qRefs cS ar 15 f :: ws) H.size q → H1[q]? = H[q]? := fun q hq hn => h2 q hq (fun z => hn (qA_cons.mpr (Or.inr z)))
  have hlt : ∀ q, ¬ va_A (qRefs cS ar 15 f :: ws) H.size q → q < H.size := fun q hn => Nat.not_le.mp fun z => hn (Or.inr z)
  refine ⟨⟨Nat.le_trans hS.1 h1, fun q hq hn => ?_, fun q hq => ?_⟩, f, hf, va_P.cons.mpr ⟨hP'.1.kept (h2 ar har harA), hP1⟩, va_D.cons (hD1.weaken fun k q _ h => hin q.1 h) (hD.2 0 _ rfl) (fun k q hk e => harA (by have h9 := hD1.2 k q hk; rw [e] at h9; exact h9)), fun o ho => ?_, fun o ho => ?_⟩
  · rw [h2 q (Nat.lt_of_lt_of_le hq hS.1) (fun z => hn (hin q z))]
    exact hS.2.1 q hq hn
  · rcases List.mem_append.mp hq with h | h
    · exact hS.2.2 q h
    · exact hin _ (hL q h)
  · exact ((hos o ho).kept hsub).narrow hnar
  · obtain ⟨d1, d2, d3, d4, d5⟩ := hds o ho
    exact ⟨d1.kept (hsub _ (hlt _ d2) d2) (hsub _ (hlt _ d3) d3), fun z => d2 (hnar _ z), fun z => d3 (hnar _ z), d4, d5⟩
theorem qL.ext {G : nCx} {D : va_G} {cB cS : ClassId} {adK : Nat → Nat} {ar k : Nat} {ws : va_W} {os ds : List oSt} : nExt (uJ G (qL G D cB cS adK ar k ws os ds)) := by
  intro H H1 locs L h h1 h2 h3
  refine qL.back h ?_ (h.2.choose_spec.2.2.1.tail.1.self) h1 (fun q hq _ => h2 q hq) (fun q hq => Or.inr (h3 q hq))
  obtain ⟨hS, f, hf, hP, -⟩ := h
  exact (va_P.cons.mp hP).2.kept fun k q hk => h2 _ ((va_P.cons.mp hP).2 k q hk).lt
/-- the made String goes outside -/
theorem qL.out {G : nCx} {D : va_G} {cB cS : ClassId} {adK : Nat → Nat} {ar k b v n N s x : Nat} {g g' : Nat → Int32} {os ds : List oSt} {bs : List Nat} {H : Heap} {locs : List Loc} (hT : zTb (nS G)) (hK : va_K D jCl [(cB, .byte)] (nS G)) (hn : n = bs.length) (hg : ∀ j, j < n → g' j = nI (bs.getD j 0)) (h : uJ G (qL G D cB cS adK ar k [jB b v n, jA cB v N g, jS s x, jA cB x n g'] os ds) H locs) : uJ G (qL G D cB cS adK ar k [] ((s, x, bs) :: os) ((s, x, bs) :: ds)) H locs := by
  obtain ⟨hS, f, hf, hP, hD, hos, hds⟩ := h
  have hP1 := va_P.cons.mp hP
  have hw : va_P D jCl [jS s x, jA cB x n g'] H := hP1.2.sub [2, 3] rfl
  have hs2 : ∀ q, va_A [qRefs cS ar 15 f] H.size q → va_A (qRefs cS ar 15 f :: [jB b v n, jA cB v N g, jS s x, jA cB x n g']) H.size q := by
    intro q hq
    rcases qA_cons.mp hq with e | ⟨k, e, hk⟩ | hq
    · exact qA_cons.mpr (Or.inl e)
    · simp at hk
    · exact Or.inr hq
  have hss : s < H.size := (hP 3 _ rfl).lt
  have hsx : x < H.size := (hP 4 _ rfl).lt
  have nS1 : ¬ va_A [qRefs cS ar 15 f] H.size s := by
    intro hq
    rcases qA_cons.mp hq with e | ⟨k, e, hk⟩ | hq
    · have := hD.1 3 0 _ _ rfl rfl e
      omega
    · simp at hk
    · omega
  have nX1 : ¬ va_A [qRefs cS ar 15 f] H.size x := by
    intro hq
    rcases qA_cons.mp hq with e | ⟨k, e, hk⟩ | hq
    · have := hD.1 4 0 _ _ rfl rfl e
      omega
    · simp at hk
    · omega
  subst hn
  refine ⟨hS, f, hf, va_P.cons.mpr ⟨hP1.1, fun k q h => by simp at h⟩, ⟨fun i j p q hi hj _ => ?_, fun k q hk => ?_⟩, fun o ho => ?_, fun o ho => ?_⟩
  · have h1 := (List.getElem?_eq_some_iff.mp hi).1
    have h2 := (List.getElem?_eq_some_iff.mp hj).1
    simp at h1 h2
    omega
  · have h1 := (List.getElem?_eq_some_iff.mp hk).1
    simp at h1
    subst h1
    cases hk
    exact hD.2 0 _ rfl
  · rcases List.mem_cons.mp ho with rfl | ho
    · exact oStr.of hT hK hw rfl hg nS1 nX1
    · exact (hos o ho).narrow hs2
  · rcases List.mem_cons.mp ho with rfl | ho
    · exact ⟨⟨g', hg, hw⟩, nS1, nX1, hD.2 3 _ rfl, hD.2 4 _ rfl⟩
    · obtain ⟨d1, d2, d3, d4, d5⟩ := hds o ho
      exact ⟨d1, fun z => d2 (hs2 _ z), fun z => d3 (hs2 _ z), d4, d5⟩
