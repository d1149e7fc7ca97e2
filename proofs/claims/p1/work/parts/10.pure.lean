/-! ===== what the methods compute, in numbers ===== -/
/-- bit k of n -/
def bt (n k : Nat) : Nat := n / 2 ^ k % 2
/-- the prices of the first a articles of the lot L whose category is in cs -/
def pin (ν : Mm) (L cs : Nat) : Nat → Nat
  | 0 => 0
  | a + 1 => if bt cs (ν (L + 2) a) = 1 then pin ν L cs a + ν (L + 1) a * ν (L + 3) a else pin ν L cs a
/-- the pieces of the first a articles -/
def cnt (ν : Mm) (L : Nat) : Nat → Nat
  | 0 => 0
  | a + 1 => cnt ν L a + ν (L + 3) a
/-- how many of the lowest eight bits are set -/
def bc (a : Nat) : Nat := bt a 0 + bt a 1 + bt a 2 + bt a 3 + bt a 4 + bt a 5 + bt a 6 + bt a 7
theorem bt_le (n k : Nat) : bt n k ≤ 1 := by unfold bt; omega
theorem bc_le (a : Nat) : bc a ≤ 8 := by
  have h0 := bt_le a 0
  have h1 := bt_le a 1
  have h2 := bt_le a 2
  have h3 := bt_le a 3
  have h4 := bt_le a 4
  have h5 := bt_le a 5
  have h6 := bt_le a 6
  have h7 := bt_le a 7
  unfold bc; omega
/-- the steps of Integer.bitCount -/
def bc1 (a : Nat) : Nat := a - (a / 2 ^ 1 &&& 1431655765)
def bc2 (a : Nat) : Nat := (bc1 a &&& 858993459) + (bc1 a / 2 ^ 2 &&& 858993459)
def bc3 (a : Nat) : Nat := bc2 a + bc2 a / 2 ^ 4 &&& 252645135
def bc4 (a : Nat) : Nat := bc3 a + bc3 a / 2 ^ 8
def bc5 (a : Nat) : Nat := bc4 a + bc4 a / 2 ^ 16
theorem bc_all : ∀ a : Fin 256, bc5 a.val &&& 63 = bc a.val ∧ bc1 a.val < 2 ^ 32 ∧ bc2 a.val < 2 ^ 32 ∧ bc3 a.val < 2 ^ 32 ∧ bc4 a.val < 2 ^ 32 := by decide +kernel
theorem bc_run (a : Nat) (h : a < 256) : bc5 a &&& 63 = bc a := (bc_all ⟨a, h⟩).1
theorem bc_b17 (a : Nat) (h : a < 256) : bc1 a < 2 ^ 32 := (bc_all ⟨a, h⟩).2.1
theorem bc_b27 (a : Nat) (h : a < 256) : bc2 a < 2 ^ 32 := (bc_all ⟨a, h⟩).2.2.1
theorem bc_b38 (a : Nat) (h : a < 256) : bc3 a < 2 ^ 32 := (bc_all ⟨a, h⟩).2.2.2.1
theorem bc_b45 (a : Nat) (h : a < 256) : bc4 a < 2 ^ 32 := (bc_all ⟨a, h⟩).2.2.2.2
theorem ite1 {P : Prop} {h : Decidable P} (e : (if P then 1 else 0) ≠ 0) : P := by
  by_cases q : P
  · exact q
  · rw [if_neg q] at e; exact absurd rfl e
theorem ite0 {P : Prop} {h : Decidable P} (e : (if P then 1 else 0) = 0) : ¬ P := by
  intro q
  rw [if_pos q] at e; exact absurd e (by decide)
/-- is the set st with the price p better than the set bs with the price lt -/
abbrev better (p st lt bs : Nat) : Prop := p < lt ∨ (p = lt ∧ (bc st < bc bs ∨ (bc st = bc bs ∧ st < bs)))
/-- the memory behind an offer -/
def offerM (ν : Mm) (st pr : Nat) : Mm :=
  let ν1 := if st &&& ν 21 0 = 0 then up2 ν 21 4 (min (ν 21 4) pr) else ν
  if better pr st (ν 21 3) (ν 21 2) then up2 (up2 ν1 21 2 st) 21 3 pr else ν1
theorem offer_pp {ν : Mm} {st pr : Nat} (h : st &&& ν 21 0 = 0) (h2 : better pr st (up2 ν 21 4 (min (ν 21 4) pr) 21 3) (up2 ν 21 4 (min (ν 21 4) pr) 21 2)) : up2 (up2 (up2 ν 21 4 (min (ν 21 4) pr)) 21 2 st) 21 3 pr = offerM ν st pr := by
  rw [up2_ne2 (by decide), up2_ne2 (by decide)] at h2
  simp only [offerM, if_pos h, if_pos h2]
theorem offer_pn {ν : Mm} {st pr : Nat} (h : st &&& ν 21 0 = 0) (h2 : ¬ better pr st (up2 ν 21 4 (min (ν 21 4) pr) 21 3) (up2 ν 21 4 (min (ν 21 4) pr) 21 2)) : up2 ν 21 4 (min (ν 21 4) pr) = offerM ν st pr := by
  rw [up2_ne2 (by decide), up2_ne2 (by decide)] at h2
  simp only [offerM, if_pos h, if_neg h2]
theorem offer_np {ν : Mm} {st pr : Nat} (h : ¬ st &&& ν 21 0 = 0) (h2 : better pr st (ν 21 3) (ν 21 2)) : up2 (up2 ν 21 2 st) 21 3 pr = offerM ν st pr := by
  simp only [offerM, if_neg h, if_pos h2]
theorem offer_nn {ν : Mm} {st pr : Nat} (h : ¬ st &&& ν 21 0 = 0) (h2 : ¬ better pr st (ν 21 3) (ν 21 2)) : ν = offerM ν st pr := by
  simp only [offerM, if_neg h, if_neg h2]
theorem fill_zero (ν : Mm) (i x : Nat) : va_up ν i (fun b => if b < 0 then x else ν i b) = ν := by
  funext a b
  by_cases h : a = i
  · subst h; simp [va_up]
  · simp [va_up, h]
theorem fill_step (ν : Mm) (i x a : Nat) : up2 (va_up ν i (fun b => if b < a then x else ν i b)) i a x = va_up ν i (fun b => if b < a + 1 then x else ν i b) := by
  funext u v
  rw [up2_if]
  by_cases h : u = i
  · subst h
    by_cases g : v = a
    · subst g; simp [va_up]
    · simp only [va_up, g, and_false, if_false, if_true]
      by_cases k : v < a
      · simp [k, show v < a + 1 by omega]
      · simp [k, show ¬ v < a + 1 by omega]
  · simp [va_up, h]
/-- one row over another, ten places -/
def cp10 (ν : Mm) (i j : Nat) : Mm := va_up ν j (fun a => if a < 10 then ν i a else ν j a)
/-- the lot K over the lot L -/
def cpLot (ν : Mm) (K L : Nat) : Mm := cp10 (cp10 (cp10 ν (K + 1) (L + 1)) (K + 2) (L + 2)) (K + 3) (L + 3)
/-- what an order tells -/
def tellF (ν : Mm) (q x : Nat) : Nat := match x with
  | 0 => ν (30 + 5 * q) 3
  | 1 => ν (30 + 5 * q) 2
  | 2 => ν (30 + 5 * q) 1
  | 3 => cnt ν (31 + 5 * q) 10
  | _ => pin ν (31 + 5 * q) 255 10
theorem tellF_4 {ν : Mm} {q x : Nat} (h : 3 < x) : tellF ν q x = pin ν (31 + 5 * q) 255 10 := by
  match x, h with
  | k + 4, _ => rfl
