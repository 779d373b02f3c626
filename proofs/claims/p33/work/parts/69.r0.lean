def zbit (v : Int) (l : Nat) : Int := v / ((2 ^ l : Nat) : Int) % 2
