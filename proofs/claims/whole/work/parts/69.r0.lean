def zbit (v : Int) (l : Nat) : Int := v / ((2 ^ l : Nat) : Int) % 2
theorem zbit_q : ∀ l : Nat, l < 12 → ∀ a : Nat, a < 64 → ∀ b : Nat, b < 64 → zand (zshr ((64 * a + b : Nat) : Int) l) 1 = zbit ((64 * a + b : Nat) : Int) l := by decide +kernel
