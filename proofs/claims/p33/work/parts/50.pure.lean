/-! the model's functions, without the machine: a second picture of the class's state -/
/-- two stores that differ in what an alignment writes only -/
def zSc (I J : zStore) : Prop := ∀ c j, c ≠ 11 → c ≠ 12 → (c ≠ 10 ∨ j ≠ 6 ∧ j ≠ 7) → J c j = I c j
theorem zSc.rfl {I : zStore} : zSc I I := fun _ _ _ _ _ => Eq.refl _
theorem zSc.trans {I J K : zStore} (h : zSc I J) (h2 : zSc J K) : zSc I K := fun c j a b d => by rw [h2 c j a b d, h c j a b d]
theorem zSc.o {I J : zStore} (h : zSc I J) {c : Nat} {j : Int} (h1 : c ≠ 11) (h2 : c ≠ 12) (h3 : c ≠ 10) : J c j = I c j := h c j h1 h2 (Or.inl h3)
theorem zSc_Ae {I : zStore} {b : Nat} {line : Int} {n m : Nat} : zSc I (zAe I b line n m) := fun c j h1 h2 h3 => by
  unfold zAe
  rcases h3 with h3 | h3
  · rw [zup_k h3, zAs_o h1 h2 (Or.inl h3)]
  · rw [zup_i h3.1, zAs_o h1 h2 (Or.inr h3.2)]
/-! rows that the model's methods need more -/
def zor (a b : Int) : Int := (zI a ||| zI b).toInt
def zshl (a b : Int) : Int := (zI a <<< (zI b &&& 31)).toInt
theorem zup_c {I : zStore} {k a : Nat} {i v : Int} (h : a ≠ k) : zup I k i v a = I a := by
  funext b
  exact zup_k h
/-- how many of the n lowest bits are set -/
def zbcN : Nat → Int → Int
  | 0, _ => 0
  | n + 1, v => v % 2 + zbcN n (v / 2)
def zbc (v : Int) : Int := zbcN 12 v
theorem zbcN_bd : ∀ (n : Nat) (v : Int), 0 ≤ zbcN n v ∧ zbcN n v ≤ n
  | 0, _ => by simp [zbcN]
  | n + 1, v => by
    have := zbcN_bd n (v / 2)
    simp only [zbcN]
    omega
theorem zbc_bd (v : Int) : 0 ≤ zbc v ∧ zbc v ≤ 12 := zbcN_bd 12 v
/-- a token's place of the model, in its ranges -/
def zmT (I : zStore) (p : Int) : Prop := (0 ≤ p ∧ p < 360) ∧ 0 ≤ I 116 p ∧ 0 ≤ I 117 p ∧ I 116 p + I 117 p ≤ 30
/-- whether the model's tokens at a and b are the same texts -/
def zmS (sz st tx : Int → Int) (a b : Int) : Bool := (sz a == sz b) && zseq tx (a / 30 * 30 + st a) (b / 30 * 30 + st b) (sz a).toNat
/-- how many of the first l lines have used the slot s of the format f -/
def zmu (u : Int → Int) (f s : Int) : Nat → Int
  | 0 => 0
  | l + 1 => zmu u f s l + if u (12 * (40 * f + s) + l) = (-1) then 0 else 1
theorem zmu_bd (u : Int → Int) (f s : Int) : ∀ l : Nat, 0 ≤ zmu u f s l ∧ zmu u f s l ≤ l
  | 0 => by simp [zmu]
  | l + 1 => by
    have := zmu_bd u f s l
    simp only [zmu]
    split <;> omega
/-- what a skip of the slot i of the model's format f costs; what a pair with the token t of the line does -/
def zms (I : zStore) (f : Int) (i : Nat) : Int := if zmu (I 122) f i (I 110 3).toNat < zbc (I 119 f) then 1 else I 110 11
def zmq (I : zStore) (f line : Int) (i t : Nat) : Int := if I 120 (40 * f + i) ≠ I 115 (30 * line + t) then (-1) else if I 121 (40 * f + i) = (-1) then 1 else if zmS (I 117) (I 116) (I 113) (I 121 (40 * f + i)) (30 * line + t) = true then 0 else I 110 10
def zmC (I : zStore) (f line : Int) : Nat → Nat → Int := zC (zms I f) (I 110 12) (zmq I f line)
/-- stores that differ in the model's scratch only: table 124, way 125, its length, the new rows -/
def zSm (I J : zStore) : Prop := ∀ c j, c ≠ 124 → c ≠ 125 → c ≠ 126 → c ≠ 127 → c ≠ 128 → (c ≠ 110 ∨ j ≠ 22) → J c j = I c j
theorem zSm.rfl {I : zStore} : zSm I I := fun _ _ _ _ _ _ _ _ => Eq.refl _
theorem zSm.trans {I J K : zStore} (h : zSm I J) (h2 : zSm J K) : zSm I K := fun c j a b d e f g => by rw [h2 c j a b d e f g, h c j a b d e f g]
theorem zSm.o {I J : zStore} (h : zSm I J) {c : Nat} (hc : c < 124) (h3 : c ≠ 110) : J c = I c := funext fun j => h c j (by omega) (by omega) (by omega) (by omega) (by omega) (Or.inl h3)
theorem zSm.f {I J : zStore} (h : zSm I J) {j : Int} (h3 : j ≠ 22) : J 110 j = I 110 j := h 110 j (by decide) (by decide) (by decide) (by decide) (by decide) (Or.inr h3)
theorem zSm.up {I J : zStore} {k : Nat} {i v : Int} (h : zSm I J) (hk : k = 124 ∨ k = 125 ∨ k = 126 ∨ k = 127 ∨ k = 128) : zSm I (zup J k i v) := fun c j a b d e f g => by rw [zup_k (by omega)]; exact h c j a b d e f g
theorem zSm.fl {I J : zStore} {k n : Nat} {a : Int} {w : Nat → Int} (h : zSm I J) (hk : k = 124 ∨ k = 125 ∨ k = 126 ∨ k = 127 ∨ k = 128) : zSm I (zfl J k a n w) := fun c j a b d e f g => by rw [zfl_k (by omega)]; exact h c j a b d e f g
theorem zSm.tab {I J : zStore} {m n : Nat} {C : Nat → Nat → Int} (h : zSm I J) : zSm I (ztab J 124 m n C) := fun c j a b d e f g => by rw [ztab_k a]; exact h c j a b d e f g
theorem zSm.st {I J : zStore} {v : Int} (h : zSm I J) : zSm I (zup J 110 22 v) := fun c j a b d e f g => by
  rcases g with g | g
  · rw [zup_k g]; exact h c j a b d e f (Or.inl g)
  · rw [zup_i g]; exact h c j a b d e f (Or.inr g)
/-- the way of the model, its length, and the store behind it -/
def zmw (I : zStore) (f line : Int) (n m k : Nat) : Int := zway (zms I f) (I 110 12) (zmq I f line) n m k
def zmP (I : zStore) (f line : Int) (n m k : Nat) : Nat × Nat := zpos (zms I f) (I 110 12) (zmq I f line) n m k
def zmK (I : zStore) (f line : Int) (n m : Nat) : Nat := zlen (zms I f) (I 110 12) (zmq I f line) n m
def zmF (T I : zStore) (f line : Int) (n m k : Nat) : zStore := zup (zfl T 125 0 k (zmw I f line n m)) 110 22 k
theorem zmF_sm {T I : zStore} {f line : Int} {n m k : Nat} : zSm T (zmF T I f line n m k) := (zSm.rfl.fl (Or.inr (Or.inl rfl))).st
def zm3 (T : zStore) (k : Nat) (a b c : Int) (na nb nc : Nat) (f g h : Nat → Int) : zStore := zfl (zfl (zfl T k a na f) (k + 1) b nb g) (k + 2) c nc h
section ZM3
variable {T : zStore} {k na nb nc : Nat} {a b c i v : Int} {f g h : Nat → Int}
theorem zm3_o {d : Nat} {j : Int} (hd : d ≠ k) (hd1 : d ≠ k + 1) (hd2 : d ≠ k + 2) : zm3 T k a b c na nb nc f g h d j = T d j := by
  unfold zm3
  rw [zfl_k hd2, zfl_k hd1, zfl_k hd]
theorem zm3_r1 {x : Nat} {j : Int} (hx : x < na) (hj : j = a + x) : zm3 T k a b c na nb nc f g h k j = f x := by
  unfold zm3
  rw [zfl_k (by omega), zfl_k (by omega), zfl_in hx hj]
theorem zm3_r2 {x : Nat} {j : Int} (hx : x < nb) (hj : j = b + x) : zm3 T k a b c na nb nc f g h (k + 1) j = g x := by
  unfold zm3
  rw [zfl_k (by omega), zfl_in hx hj]
theorem zm3_r3 {x : Nat} {j : Int} (hx : x < nc) (hj : j = c + x) : zm3 T k a b c na nb nc f g h (k + 2) j = h x := by
  unfold zm3
  rw [zfl_in hx hj]
theorem zm3_q1 {j : Int} (hj : j < a ∨ a + na ≤ j) : zm3 T k a b c na nb nc f g h k j = T k j := by
  unfold zm3
  rw [zfl_k (by omega), zfl_k (by omega), zfl_out hj]
theorem zm3_q2 {j : Int} (hj : j < b ∨ b + nb ≤ j) : zm3 T k a b c na nb nc f g h (k + 1) j = T (k + 1) j := by
  unfold zm3
  rw [zfl_k (by omega), zfl_out hj, zfl_k (by omega)]
theorem zm3_q3 {j : Int} (hj : j < c ∨ c + nc ≤ j) : zm3 T k a b c na nb nc f g h (k + 2) j = T (k + 2) j := by
  unfold zm3
  rw [zfl_out hj, zfl_k (by omega), zfl_k (by omega)]
end ZM3
/-- the new rows of the model's mergeInto: kinds, texts, used of the slot j -/
def zmnk (T : zStore) (f line : Int) (K : Nat) (w : Nat → Int) (P : Nat → Nat × Nat) (j : Nat) : Int := if w (K - 1 - j) = 2 then T 115 (30 * line + (P (K - j)).2) else T 120 (40 * f + (P (K - j)).1)
def zmnt (T : zStore) (f line : Int) (K : Nat) (w : Nat → Int) (P : Nat → Nat × Nat) (j : Nat) : Int := if w (K - 1 - j) = 2 then 30 * line + (P (K - j)).2 else if w (K - 1 - j) = 0 ∧ T 121 (40 * f + (P (K - j)).1) ≠ (-1) ∧ zmS (T 117) (T 116) (T 113) (T 121 (40 * f + (P (K - j)).1)) (30 * line + (P (K - j)).2) = false then (-1) else T 121 (40 * f + (P (K - j)).1)
def zmn0 (T : zStore) (f : Int) (K : Nat) (w : Nat → Int) (P : Nat → Nat × Nat) (y : Nat) : Int := if w (K - 1 - y / 12) = 2 then (-1) else T 122 (12 * (40 * f + (P (K - y / 12)).1) + (y % 12 : Nat))
def zmnu (T : zStore) (f line : Int) (K : Nat) (w : Nat → Int) (P : Nat → Nat × Nat) (y : Nat) : Int := if ((y % 12 : Nat) : Int) = line ∧ w (K - 1 - y / 12) ≠ 1 then ((P (K - y / 12)).2 : Int) else zmn0 T f K w P y
def zmN (T : zStore) (f line : Int) (w : Nat → Int) (P : Nat → Nat × Nat) (K j : Nat) : zStore := zm3 T 126 0 0 0 j j (12 * j) (zmnk T f line K w P) (zmnt T f line K w P) (zmnu T f line K w P)
def zmO (T : zStore) (f line : Int) (w : Nat → Int) (P : Nat → Nat × Nat) (K j : Nat) : zStore := zm3 (zmN T f line w P K K) 120 (40 * f) (40 * f) (480 * f) j j (12 * j) (zmnk T f line K w P) (zmnt T f line K w P) (zmnu T f line K w P)
def zmM (T : zStore) (f line : Int) (w : Nat → Int) (P : Nat → Nat × Nat) (K : Nat) : zStore := zup (zup (zmO T f line w P K K) 118 f K) 119 f (zor (T 119 f) (zshl 1 line))
section ZMG
variable {T : zStore} {f line : Int} {w : Nat → Int} {P : Nat → Nat × Nat} {K : Nat}
theorem zmN_o {j : Nat} {c : Nat} {i : Int} (h : c < 126) : zmN T f line w P K j c i = T c i := zm3_o (by omega) (by omega) (by omega)
end ZMG
/-- the least or greatest size of the tokens of the first l lines that have used the slot; -1 if there is none -/
def zme (u z : Int → Int) (slot g : Int) : Nat → Int
  | 0 => -1
  | l + 1 => if u (12 * (40 * 0 + slot) + l) = (-1) then zme u z slot g l else if zme u z slot g l = (-1) ∨ (g ≠ 0 ∧ zme u z slot g l < z (30 * l + u (12 * (40 * 0 + slot) + l))) ∨ (g = 0 ∧ z (30 * l + u (12 * (40 * 0 + slot) + l)) < zme u z slot g l) then z (30 * l + u (12 * (40 * 0 + slot) + l)) else zme u z slot g l
/-- behind align and follow; behind mergeInto too -/
def zmal (I : zStore) (f line : Int) (n m : Nat) : zStore := zmF (ztab I 124 m n (zmC I f line)) I f line n m (zmK I f line n m)
def zmaj (I : zStore) (f line : Int) (n m : Nat) : zStore := zmM (zmal I f line n m) f line (zmw I f line n m) (zmP I f line n m) (zmK I f line n m)
section ZMJ
variable {I : zStore} {f line : Int} {n m : Nat}
theorem zmal_sm : zSm I (zmal I f line n m) := zSm.trans zSm.rfl.tab zmF_sm
end ZMJ
/-- the model's store after i bytes were fed -/
def zmfd (I : zStore) (x : Int64) : Nat → zStore
  | 0 => zup I 110 0 0
  | i + 1 => if zby x i = 0 then zmfd I x i else zup (zup (zmfd I x i) 111 (zmfd I x i 110 1) (zby x i)) 110 1 (zmfd I x i 110 1 + 1)
/-- the token rows of the model's new line after k bytes -/
def zmtk (X : zStore) (A : Int) (kd : Nat → Int) (k : Nat) : zStore := zm3 X 115 A A A (zcnt kd k) (zcnt kd k) (zcnt kd k) (zkn kd k) (zsn kd k) (zzn kd k)
theorem zmtk_o {X : zStore} {A j : Int} {kd : Nat → Int} {k d : Nat} (h : d ≠ 115) (h1 : d ≠ 116) (h2 : d ≠ 117) : zmtk X A kd k d j = X d j := zm3_o h h1 h2
/-- the kinds of the model's buffer; its store after k bytes of the new line, and behind store -/
def zmkd (I : zStore) : Nat → Int := fun i => zkd (I 111 i)
def zmsX (I : zStore) (L z k : Nat) : zStore := zfl (zup (zup I 110 0 0) 112 L z) 113 (30 * L) k (fun i => I 111 i)
def zmsU (I : zStore) (L z k : Nat) : zStore := zup (zmtk (zmsX I L z k) (30 * L) (zmkd I) k) 114 L (zcnt (zmkd I) k)
def zmsto (I : zStore) (L z : Nat) : zStore := zup (zup (zup (zmsU I L z z) 110 1 0) 110 3 (L + 1)) 110 18 0
/-! the frame grows by a cell -/
def zgrow (F : zFr) (a : Nat) (sp : zSpec) : zFr := (fun k => if k = F.2.1 then a else F.1 k, F.2.1 + 1, fun k => if k = F.2.1 then sp else F.2.2 k)
def zrefs : zSpec → Nat → Prop
  | .inl q, t => some (some t) ∈ q.2
  | .inr (.inl _), _ => False
  | .inr (.inr r), t => some t ∈ r
def zWf (F : zFr) : Prop := ∀ k t, k < F.2.1 → zrefs (F.2.2 k) t → t < F.2.1
section ZGR
variable {F : zFr} {a : Nat} {sp : zSpec} {I : zStore}
theorem zgrow_sp {k : Nat} (h : k < F.2.1) : (zgrow F a sp).2.2 k = F.2.2 k := if_neg (by omega)
theorem zgrow_spn : (zgrow F a sp).2.2 F.2.1 = sp := if_pos rfl
end ZGR
def zmFt (I : zStore) (line : Int) (n m : Nat) : Prop := (0 ≤ line ∧ line < 12) ∧ (I 118 0 = n ∧ n ≤ 40) ∧ (I 114 line = m ∧ m ≤ 30) ∧ (0 ≤ I 110 3 ∧ I 110 3 ≤ 12) ∧ (0 ≤ I 119 0 ∧ I 119 0 < 4096) ∧ (∀ i : Nat, i < n → I 121 (40 * 0 + (i : Int)) ≠ (-1) → zmT I (I 121 (40 * 0 + (i : Int)))) ∧ (∀ t : Nat, t < m → zmT I (30 * line + t)) ∧ ∀ i : Nat, i < n → ∀ l : Int, 0 ≤ l → l < I 110 3 → I 122 (12 * (40 * 0 + (i : Int)) + l) ≠ (-1) → 0 ≤ I 122 (12 * (40 * 0 + (i : Int)) + l) ∧ I 122 (12 * (40 * 0 + (i : Int)) + l) < 30
/-- what allBits asks -/
def zmBt (I : zStore) (N n : Nat) : Prop := (I 110 3 = N ∧ N ≤ 12) ∧ (I 118 0 = n ∧ n ≤ 40) ∧ (0 ≤ I 119 0 ∧ I 119 0 < 4096) ∧ (∀ i : Nat, i < n → (I 121 i ≠ (-1) → 0 ≤ I 121 i ∧ I 121 i < 360) ∧ 0 ≤ I 120 i ∧ I 120 i < 4) ∧ ∀ i : Nat, i < n → ∀ l : Nat, l < N → I 122 (12 * (40 * 0 + (i : Int)) + l) ≠ (-1) → 0 ≤ I 122 (12 * (40 * 0 + (i : Int)) + l) ∧ I 122 (12 * (40 * 0 + (i : Int)) + l) < 30
