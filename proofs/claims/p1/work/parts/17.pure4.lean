/-! ===== the desk, in numbers ===== -/
def lotOK (ν : Mm) (L : Nat) : Prop := ∀ a, a < 10 → ν (L + 1) a ≤ 10000 ∧ ν (L + 2) a ≤ 7 ∧ ν (L + 3) a ≤ 6
def couOK (ν : Mm) (k : Nat) : Prop := ν (22 + k) 0 ≤ 3 ∧ ν (22 + k) 1 ≤ 100000 ∧ (ν (22 + k) 0 = 0 → ν (22 + k) 1 ≤ 100) ∧ ν (22 + k) 2 ≤ 255 ∧ ν (22 + k) 3 ≤ 1000000 ∧ ν (22 + k) 4 ≤ 3 ∧ ν (22 + k) 5 ≤ 9
def ordOK (ν : Mm) (k : Nat) : Prop := ν (30 + 5 * k) 1 < 256 ∧ ν (30 + 5 * k) 2 ≤ 10000 ∧ ν (30 + 5 * k) 3 ≤ 600000
/-- the desk's numbers are in their bounds -/
def WD (ν : Mm) : Prop := (∀ L, lotB L → lotOK ν L) ∧ (∀ k, k < 8 → couOK ν k) ∧ (∀ k, k < 12 → ordOK ν k) ∧ ν 0 5 ≤ 10 ∧ ν 0 6 ≤ 8 ∧ ν 0 7 ≤ 12 ∧ ν 0 8 ≤ 10000 ∧ ν 0 9 ≤ 1000000
theorem pin_le {ν : Mm} {L cs B a : Nat} (h : ∀ i, i < a → ν (L + 1) i * ν (L + 3) i ≤ B) : pin ν L cs a ≤ a * B := by
  induction a with
  | zero => simp [pin]
  | succ a ih =>
    have h1 := ih (fun i hi => h i (by omega))
    have h2 := h a (by omega)
    rw [Nat.succ_mul]
    simp only [pin]
    split <;> omega
theorem pin_succ (ν : Mm) (L cs a : Nat) : pin ν L cs (a + 1) = if bt cs (ν (L + 2) a) = 1 then pin ν L cs a + ν (L + 1) a * ν (L + 3) a else pin ν L cs a := rfl
theorem cnt_succ (ν : Mm) (L a : Nat) : cnt ν L (a + 1) = cnt ν L a + ν (L + 3) a := rfl
theorem WD.cC {ν : Mm} (h : WD ν) {L : Nat} (hL : lotB L) : ∀ a, a < 10 → ν (L + 2) a < 32 := fun a ha => by have := (h.1 L hL a ha).2.1; omega
theorem WD.c6 {ν : Mm} (h : WD ν) {L : Nat} (hL : lotB L) : ∀ a, a < 10 → ν (L + 3) a ≤ 6 := fun a ha => (h.1 L hL a ha).2.2
theorem WD.c10 {ν : Mm} (h : WD ν) {L : Nat} (hL : lotB L) : ∀ a, a < 10 → ν (L + 1) a ≤ 10000 := fun a ha => (h.1 L hL a ha).1
theorem WD.pb {ν : Mm} (h : WD ν) {L : Nat} (hL : lotB L) (cs : Nat) : pin ν L cs 10 ≤ 600000 := pin_le (B := 60000) (fun i hi => Nat.mul_le_mul (h.1 L hL i hi).1 (h.1 L hL i hi).2.2)
theorem WD.pb2 {ν : Mm} (h : WD ν) {L : Nat} (hL : lotB L) (cs : Nat) : pin ν L cs 10 < 2 ^ 31 := Nat.lt_of_le_of_lt (h.pb hL cs) (by decide)
theorem WD.n60 {ν : Mm} (h : WD ν) {L : Nat} (hL : lotB L) : cnt ν L 10 ≤ 60 := cnt_le (h.c6 hL)
theorem WD.k0 {ν : Mm} (h : WD ν) {q : Nat} (hq : q < 8) : ν (22 + q) 0 < 2 ^ 31 := by have := (h.2.1 q hq).1; omega
theorem WD.v1 {ν : Mm} (h : WD ν) {q : Nat} (hq : q < 8) : ν (22 + q) 1 ≤ 100000 := (h.2.1 q hq).2.1
theorem WD.v0 {ν : Mm} (h : WD ν) {q : Nat} (hq : q < 8) : ν (22 + q) 0 = 0 → ν (22 + q) 1 ≤ 100 := (h.2.1 q hq).2.2.1
theorem WD.cs {ν : Mm} (h : WD ν) {q : Nat} (hq : q < 8) : ν (22 + q) 2 < 2 ^ 31 := by have := (h.2.1 q hq).2.2.2.1; omega
theorem WD.mn {ν : Mm} (h : WD ν) {q : Nat} (hq : q < 8) : ν (22 + q) 3 < 2 ^ 31 := by have := (h.2.1 q hq).2.2.2.2.1; omega
theorem WD.gr {ν : Mm} (h : WD ν) {q : Nat} (hq : q < 8) : ν (22 + q) 4 < 2 ^ 31 := by have := (h.2.1 q hq).2.2.2.2.2.1; omega
theorem WD.us {ν : Mm} (h : WD ν) {q : Nat} (hq : q < 8) : ν (22 + q) 5 < 2 ^ 31 := by have := (h.2.1 q hq).2.2.2.2.2.2; omega
theorem WD.nc {ν : Mm} (h : WD ν) : ν 0 6 ≤ 8 := h.2.2.2.2.1
theorem WD.na {ν : Mm} (h : WD ν) : ν 0 5 ≤ 10 := h.2.2.2.1
theorem WD.no {ν : Mm} (h : WD ν) : ν 0 7 ≤ 12 := h.2.2.2.2.2.1
theorem WD.fe {ν : Mm} (h : WD ν) : ν 0 8 ≤ 10000 := h.2.2.2.2.2.2.1
theorem WD.li {ν : Mm} (h : WD ν) : ν 0 9 ≤ 1000000 := h.2.2.2.2.2.2.2
/-- the desk's part of the memory: all but the tray and the search -/
def dsk (ν μ : Mm) : Prop := ∀ i, i < 7 ∨ 21 < i → μ i = ν i
theorem dsk_rf (ν : Mm) : dsk ν ν := fun _ _ => rfl
theorem dsk.trans {ν μ κ : Mm} (h : dsk ν μ) (h2 : dsk μ κ) : dsk ν κ := fun i hi => (h2 i hi).trans (h i hi)
theorem dsk.symm {ν μ : Mm} (h : dsk ν μ) : dsk μ ν := fun i hi => (h i hi).symm
theorem dsk.c {ν μ : Mm} (h : dsk ν μ) (k : Nat) : μ (22 + k) = ν (22 + k) := h _ (by omega)
theorem dsk.o {ν μ : Mm} (h : dsk ν μ) (k : Nat) : μ (30 + 5 * k) = ν (30 + 5 * k) := h _ (by omega)
theorem dsk.d {ν μ : Mm} (h : dsk ν μ) : μ 0 = ν 0 := h 0 (by omega)
theorem dsk.l {ν μ : Mm} (h : dsk ν μ) {L j : Nat} (hL : lotB L) (hj : j ≤ 3) : μ (L + j) = ν (L + j) := h _ (by rcases hL with e | ⟨k, -, e⟩ <;> omega)
theorem dsk.pin {ν μ : Mm} (h : dsk ν μ) {L : Nat} (hL : lotB L) (cs a : Nat) : pin μ L cs a = pin ν L cs a := by
  induction a with
  | zero => rfl
  | succ a ih =>
    have e1 := h.l hL (show 1 ≤ 3 by decide)
    have e2 := h.l hL (show 2 ≤ 3 by decide)
    have e3 := h.l hL (show 3 ≤ 3 by decide)
    rw [pin_succ, pin_succ, ih, e1, e2, e3]
theorem dsk.cnt {ν μ : Mm} (h : dsk ν μ) {L : Nat} (hL : lotB L) (a : Nat) : cnt μ L a = cnt ν L a := by
  induction a with
  | zero => rfl
  | succ a ih =>
    have e3 := h.l hL (show 3 ≤ 3 by decide)
    rw [cnt_succ, cnt_succ, ih, e3]
theorem dsk.WD {ν μ : Mm} (h : dsk ν μ) (hW : WD ν) : WD μ := by
  refine ⟨fun L hL a ha => ?_, fun k hk => ?_, fun k hk => ?_, ?_⟩
  · have := hW.1 L hL a ha
    rw [h.l hL (by decide), h.l hL (by decide), h.l hL (by decide)]
    exact this
  · have := hW.2.1 k hk
    unfold couOK at this ⊢
    rw [h.c k]
    exact this
  · have := hW.2.2.1 k hk
    unfold ordOK at this ⊢
    rw [h.o k]
    exact this
  · rw [h.d]; exact hW.2.2.2
/-- the coupon k is reached by the lot L; is usable for the basket -/
abbrev rchd (ν : Mm) (k L : Nat) : Prop := 0 < pin ν L (ν (22 + k) 2) 10 ∧ ν (22 + k) 3 ≤ pin ν L (ν (22 + k) 2) 10
abbrev usab (ν : Mm) (k : Nat) : Prop := 0 < ν (22 + k) 5 ∧ 0 < pin ν 1 (ν (22 + k) 2) 10 ∧ ν (22 + k) 3 ≤ pin ν 1 (ν (22 + k) 2) 10
/-- none of the set st has the group g -/
def grF (ν : Mm) (st g : Nat) : Nat → Bool
  | 0 => true
  | j + 1 => grF ν st g j && !(decide (bt st j = 1) && decide (ν (22 + j) 4 = g))
def gf (ν : Mm) (k st : Nat) : Bool := decide (ν (22 + k) 4 = 0) || grF ν st (ν (22 + k) 4) (ν 0 6)
/-- the set st is allowed, as far as its first members go -/
def alF (ν : Mm) (st : Nat) : Nat → Bool
  | 0 => true
  | k + 1 => alF ν st k && (!decide (bt st k = 1) || (decide (usab ν k) && gf ν k (st &&& (2 ^ k - 1))))
def al (ν : Mm) (st : Nat) : Bool := alF ν st (ν 0 6)
/-- some of the set is FREIGHT -/
def frF (ν : Mm) (st : Nat) : Nat → Bool
  | 0 => false
  | k + 1 => frF ν st k || (decide (bt st k = 1) && decide (ν (22 + k) 0 = 3))
def feF (ν : Mm) (st g : Nat) : Nat := if ν 0 9 ≤ g ∨ cnt ν 1 10 = 0 ∨ frF ν st (ν 0 6) = true then 0 else ν 0 8
/-- the usable coupons; those that act and are reached -/
def ubF (ν : Mm) : Nat → Nat
  | 0 => 0
  | k + 1 => if usab ν k then ubF ν k ||| 2 ^ k else ubF ν k
def srF (ν : Mm) (q : Nat) : Nat → Nat
  | 0 => 0
  | k + 1 => if bt (ν (30 + 5 * q) 1) k = 1 ∧ rchd ν k (31 + 5 * q) then srF ν q k ||| 2 ^ k else srF ν q k
/-- the members of st have one use less -/
def uuM (ν : Mm) (st : Nat) : Nat → Mm
  | 0 => ν
  | k + 1 => if bt st k = 1 then up2 (uuM ν st k) (22 + k) 5 (uuM ν st k (22 + k) 5 - 1) else uuM ν st k
theorem uuM_ge (ν : Mm) (st c k : Nat) (h : c ≤ k) : uuM ν st c (22 + k) = ν (22 + k) := by
  induction c with
  | zero => rfl
  | succ c ih =>
    simp only [uuM]
    split
    · rw [up2_ne (by omega)]; exact ih (by omega)
    · exact ih (by omega)
theorem uuM_off (ν : Mm) (st c i : Nat) (h : i < 22 ∨ 22 + c ≤ i) : uuM ν st c i = ν i := by
  induction c with
  | zero => rfl
  | succ c ih =>
    simp only [uuM]
    split
    · rw [up2_ne (by omega)]; exact ih (by omega)
    · exact ih (by omega)
theorem grF_false {ν : Mm} {st g j n : Nat} (h : j < n) (hb : bt st j = 1) (hg : ν (22 + j) 4 = g) : grF ν st g n = false := by
  induction n with
  | zero => omega
  | succ n ih =>
    by_cases e : j = n
    · subst e; simp [grF, hb, hg]
    · simp [grF, ih (by omega)]
theorem al_false {ν : Mm} {st j n : Nat} (h : j < n) (hb : bt st j = 1) (hu : ¬ usab ν j ∨ gf ν j (st &&& (2 ^ j - 1)) = false) : alF ν st n = false := by
  induction n with
  | zero => omega
  | succ n ih =>
    by_cases e : j = n
    · subst e
      rcases hu with hu | hu
      · simp only [alF, hb, decide_eq_false hu]; simp
      · simp only [alF, hb, hu]; simp
    · simp [alF, ih (by omega)]
theorem frF_true {ν : Mm} {st j n : Nat} (h : j < n) (hb : bt st j = 1) (hk : ν (22 + j) 0 = 3) : frF ν st n = true := by
  induction n with
  | zero => omega
  | succ n ih =>
    by_cases e : j = n
    · subst e; simp [frF, hb, hk]
    · simp [frF, ih (by omega)]
theorem WD.ac {ν : Mm} (h : WD ν) {q : Nat} (hq : q < 12) : ν (30 + 5 * q) 1 < 2 ^ 31 := by have := (h.2.2.1 q hq).1; omega
