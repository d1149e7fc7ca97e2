/-! ===== what the methods compute, in numbers ===== -/
/-- bit k of n -/
def bt (n k : Nat) : Nat := n / 2 ^ k % 2
/-- the prices of the first a articles of the lot L whose category is in cs -/
def pin (ν : Mm) (L cs : Nat) : Nat → Nat
  | 0 => 0
  | a + 1 => if bt cs (ν (L + 2) a) = 1 then pin ν L cs a + ν (L + 1) a * ν (L + 3) a else pin ν L cs a
/-- the pieces of the first a articles -/
def cnt (ν : Mm) (L : Nat) : Nat → Nat
  | 0 => 0
  | a + 1 => cnt ν L a + ν (L + 3) a
