/-! ===== the calls of the face, in numbers ===== -/
/-- cell by cell -/
def cOK (i : Nat) (r : Nat → Nat) : Prop :=
  (i = 0 → r 5 ≤ 10 ∧ r 6 ≤ 8 ∧ r 7 ≤ 12 ∧ r 8 ≤ 10000 ∧ r 9 ≤ 1000000) ∧
  (∀ L, lotB L → (i = L + 1 → ∀ a, a < 10 → r a ≤ 10000) ∧ (i = L + 2 → ∀ a, a < 10 → r a ≤ 7) ∧ (i = L + 3 → ∀ a, a < 10 → r a ≤ 6)) ∧
  (∀ k, k < 8 → i = 22 + k → r 0 ≤ 3 ∧ r 1 ≤ 100000 ∧ (r 0 = 0 → r 1 ≤ 100) ∧ r 2 ≤ 255 ∧ r 3 ≤ 1000000 ∧ r 4 ≤ 3 ∧ r 5 ≤ 9) ∧
  (∀ k, k < 12 → i = 30 + 5 * k → r 1 < 256 ∧ r 2 ≤ 10000 ∧ r 3 ≤ 600000)
theorem WD_cells {ν : Mm} : WD ν ↔ ∀ i, cOK i (ν i) := by
  constructor
  · intro h i
    refine ⟨fun e => by subst e; exact h.2.2.2, fun L hL => ⟨fun e a ha => by subst e; exact (h.1 L hL a ha).1, fun e a ha => by subst e; exact (h.1 L hL a ha).2.1, fun e a ha => by subst e; exact (h.1 L hL a ha).2.2⟩, fun k hk e => by subst e; exact h.2.1 k hk, fun k hk e => by subst e; exact h.2.2.1 k hk⟩
  · intro h
    exact ⟨fun L hL a ha => ⟨((h (L + 1)).2.1 L hL).1 rfl a ha, ((h (L + 2)).2.1 L hL).2.1 rfl a ha, ((h (L + 3)).2.1 L hL).2.2 rfl a ha⟩, fun k hk => (h (22 + k)).2.2.1 k hk rfl, fun k hk => (h (30 + 5 * k)).2.2.2 k hk rfl, (h 0).1 rfl⟩
theorem WD.upC {ν : Mm} {i : Nat} {r : Nat → Nat} (h : WD ν) (hc : cOK i r) : WD (va_up ν i r) := WD_cells.mpr fun j => by
  by_cases e : j = i
  · subst e; rw [va_up_self]; exact hc
  · rw [va_up_ne _ _ e]; exact WD_cells.mp h j
theorem lotB_1m {L : Nat} (h : lotB L) : L = 1 ∨ (31 ≤ L ∧ L ≤ 86 ∧ L % 5 = 1) := by
  rcases h with e | ⟨k, hk, e⟩
  · exact Or.inl e
  · exact Or.inr ⟨by omega, by omega, by omega⟩
theorem cOK_p {L : Nat} {r : Nat → Nat} (hL : lotB L) (h : ∀ a, a < 10 → r a ≤ 10000) : cOK (L + 1) r := by
  have h1 := lotB_1m hL
  refine ⟨fun e => by omega, fun K hK => ?_, fun k hk e => by omega, fun k hk e => by omega⟩
  have h2 := lotB_1m hK
  exact ⟨fun _ => h, fun e => by omega, fun e => by omega⟩
theorem cOK_c {L : Nat} {r : Nat → Nat} (hL : lotB L) (h : ∀ a, a < 10 → r a ≤ 7) : cOK (L + 2) r := by
  have h1 := lotB_1m hL
  refine ⟨fun e => by omega, fun K hK => ?_, fun k hk e => by omega, fun k hk e => by omega⟩
  have h2 := lotB_1m hK
  exact ⟨fun e => by omega, fun _ => h, fun e => by omega⟩
theorem cOK_n {L : Nat} {r : Nat → Nat} (hL : lotB L) (h : ∀ a, a < 10 → r a ≤ 6) : cOK (L + 3) r := by
  have h1 := lotB_1m hL
  refine ⟨fun e => by omega, fun K hK => ?_, fun k hk e => by omega, fun k hk e => by omega⟩
  have h2 := lotB_1m hK
  exact ⟨fun e => by omega, fun e => by omega, fun _ => h⟩
theorem cOK_d {r : Nat → Nat} (h : r 5 ≤ 10 ∧ r 6 ≤ 8 ∧ r 7 ≤ 12 ∧ r 8 ≤ 10000 ∧ r 9 ≤ 1000000) : cOK 0 r :=
  ⟨fun _ => h, fun K hK => by have h2 := lotB_1m hK; exact ⟨fun e => by omega, fun e => by omega, fun e => by omega⟩, fun k hk e => by omega, fun k hk e => by omega⟩
theorem cOK_k {q : Nat} {r : Nat → Nat} (hq : q < 8) (h : r 0 ≤ 3 ∧ r 1 ≤ 100000 ∧ (r 0 = 0 → r 1 ≤ 100) ∧ r 2 ≤ 255 ∧ r 3 ≤ 1000000 ∧ r 4 ≤ 3 ∧ r 5 ≤ 9) : cOK (22 + q) r :=
  ⟨fun e => by omega, fun K hK => by have h2 := lotB_1m hK; exact ⟨fun e => by omega, fun e => by omega, fun e => by omega⟩, fun k hk e => h, fun k hk e => by omega⟩
theorem cOK_o {q : Nat} {r : Nat → Nat} (hq : q < 12) (h : r 1 < 256 ∧ r 2 ≤ 10000 ∧ r 3 ≤ 600000) : cOK (30 + 5 * q) r :=
  ⟨fun e => by omega, fun K hK => by have h2 := lotB_1m hK; exact ⟨fun e => by omega, fun e => by omega, fun e => by omega⟩, fun k hk e => by omega, fun k hk e => h⟩
theorem va_up_le {f : Nat → Nat} {j v B a : Nat} (hv : v ≤ B) (hf : f a ≤ B) : va_up f j v a ≤ B := by
  by_cases e : a = j
  · subst e; rw [va_up_self]; exact hv
  · rw [va_up_ne _ _ e]; exact hf
theorem WD.upN {ν : Mm} {L a v : Nat} (h : WD ν) (hL : lotB L) (hv : v ≤ 6) : WD (up2 ν (L + 3) a v) := h.upC (cOK_n hL fun b hb => va_up_le hv (h.c6 hL b hb))
theorem WD.upP {ν : Mm} {L a v : Nat} (h : WD ν) (hL : lotB L) (hv : v ≤ 10000) : WD (up2 ν (L + 1) a v) := h.upC (cOK_p hL fun b hb => va_up_le hv (h.c10 hL b hb))
theorem WD.upK {ν : Mm} {L a v : Nat} (h : WD ν) (hL : lotB L) (hv : v ≤ 7) : WD (up2 ν (L + 2) a v) := h.upC (cOK_c hL fun b hb => va_up_le hv (h.1 L hL b hb).2.1)
theorem WD.upA {ν : Mm} {q v : Nat} (h : WD ν) (hq : q < 12) (hv : v < 256) : WD (up2 ν (30 + 5 * q) 1 v) := h.upC (cOK_o hq (by
  have := h.2.2.1 q hq
  simp [va_up]; exact ⟨hv, this.2.1, this.2.2⟩))
theorem WD.upF {ν : Mm} {q v : Nat} (h : WD ν) (hq : q < 12) (hv : v ≤ 10000) : WD (up2 ν (30 + 5 * q) 2 v) := h.upC (cOK_o hq (by
  have := h.2.2.1 q hq
  simp [va_up]; exact ⟨this.1, hv, this.2.2⟩))
theorem WD.upG {ν : Mm} {q v : Nat} (h : WD ν) (hq : q < 12) (hv : v ≤ 600000) : WD (up2 ν (30 + 5 * q) 3 v) := h.upC (cOK_o hq (by
  have := h.2.2.1 q hq
  simp [va_up]; exact ⟨this.1, this.2.1, hv⟩))
theorem WD.cp {ν : Mm} {K L : Nat} (h : WD ν) (hK : lotB K) (hL : lotB L) : WD (cpLot ν K L) := by
  have h1 : WD (cp10 ν (K + 1) (L + 1)) := h.upC (cOK_p hL fun a ha => by rw [if_pos ha]; exact h.c10 hK a ha)
  have h2 : WD (cp10 (cp10 ν (K + 1) (L + 1)) (K + 2) (L + 2)) := h1.upC (cOK_c hL fun a ha => by rw [if_pos ha]; exact (h1.1 K hK a ha).2.1)
  exact h2.upC (cOK_n hL fun a ha => by rw [if_pos ha]; exact (h2.1 K hK a ha).2.2)
theorem WD.uu {ν : Mm} {st c : Nat} (h : WD ν) (hc : c ≤ 8) : WD (uuM ν st c) := by
  induction c with
  | zero => exact h
  | succ c ih =>
    have h1 := ih (by omega)
    simp only [uuM]
    split
    · refine h1.upC (cOK_k (by omega) ?_)
      have := h1.2.1 c (by omega)
      unfold couOK at this
      simp [va_up]
      omega
    · exact h1
theorem WD.clr {ν : Mm} {L : Nat} (h : WD ν) (hL : lotB L) : WD (va_up ν (L + 3) (fun a => if a < 10 then 0 else ν (L + 3) a)) := h.upC (cOK_n hL fun a ha => by rw [if_pos ha]; exact Nat.zero_le _)
/-! the desk's part under writes -/
theorem dsk.up {ν μ : Mm} (h : dsk ν μ) (i j v : Nat) : dsk (up2 ν i j v) (up2 μ i j v) := fun a ha => by
  by_cases e : a = i
  · subst e; rw [up2_row, up2_row, h a ha]
  · rw [up2_ne e, up2_ne e]; exact h a ha
theorem dsk.upR {ν μ : Mm} (h : dsk ν μ) (i : Nat) {r r' : Nat → Nat} (hr : (i < 7 ∨ 21 < i) → r = r') : dsk (va_up ν i r) (va_up μ i r') := fun a ha => by
  by_cases e : a = i
  · subst e; rw [va_up_self, va_up_self, hr ha]
  · rw [va_up_ne _ _ e, va_up_ne _ _ e]; exact h a ha
theorem dsk.cp {ν μ : Mm} (h : dsk ν μ) {K L : Nat} (hK : lotB K) (hL : lotB L) : dsk (cpLot ν K L) (cpLot μ K L) := by
  have step : ∀ {ν μ : Mm} {c : Nat}, dsk ν μ → c ≤ 3 → dsk (cp10 ν (K + c) (L + c)) (cp10 μ (K + c) (L + c)) := by
    intro ν μ c h hc
    exact h.upR _ (fun _ => by rw [h.l hK hc, h.l hL hc])
  exact step (step (step h (by decide)) (by decide)) (by decide)
theorem dsk.uu {ν μ : Mm} (h : dsk ν μ) (st c : Nat) : dsk (uuM ν st c) (uuM μ st c) := by
  induction c with
  | zero => exact h
  | succ c ih =>
    simp only [uuM]
    split
    · rw [ih.c]; exact ih.up _ _ _
    · exact ih
/-- behind buy -/
def buyM (ν : Mm) (st : Nat) : Mm :=
  let q := ν 0 7
  let ν1 := up2 (up2 (up2 (cpLot ν 1 (31 + 5 * q)) (30 + 5 * q) 1 st) (30 + 5 * q) 2 (feF ν st (gdF ν 1 st))) (30 + 5 * q) 3 (gdF ν 1 st)
  let ν2 := uuM (up2 ν1 0 7 (q + 1)) st (ν 0 6)
  va_up ν2 4 (fun a => if a < 10 then 0 else ν2 4 a)
/-- behind giveBack: the counts, then the acting ones, then what is paid -/
def gb1 (ν : Mm) (o a n : Nat) : Mm := up2 ν (31 + 5 * o + 3) a (ν (31 + 5 * o + 3) a - n)
def gb2 (ν : Mm) (o a n : Nat) : Mm := up2 (gb1 ν o a n) (30 + 5 * o) 1 (srF (gb1 ν o a n) o (ν 0 6))
def gbG (ν : Mm) (o a n : Nat) : Nat := gdF (gb2 ν o a n) (31 + 5 * o) (srF (gb1 ν o a n) o (ν 0 6))
def gbM (ν : Mm) (o a n : Nat) : Mm := if ν (30 + 5 * o) 3 ≤ gbG ν o a n then gb2 ν o a n else up2 (gb2 ν o a n) (30 + 5 * o) 3 (gbG ν o a n)
def gbR (ν : Mm) (o a n : Nat) : Nat := if ν (30 + 5 * o) 3 ≤ gbG ν o a n then 0 else ν (30 + 5 * o) 3 - gbG ν o a n
theorem ubF_lt {ν : Mm} (c : Nat) : ubF ν c < 2 ^ c := by
  induction c with
  | zero => exact Nat.zero_lt_one
  | succ c ih =>
    have h2 : (2 : Nat) ^ c < 2 ^ (c + 1) := Nat.pow_lt_pow_right (by decide) (Nat.lt_succ_self c)
    simp only [ubF]
    split
    · exact Nat.or_lt_two_pow (Nat.lt_trans ih h2) h2
    · omega
theorem srF_lt {ν : Mm} {q : Nat} (c : Nat) : srF ν q c < 2 ^ c := by
  induction c with
  | zero => exact Nat.zero_lt_one
  | succ c ih =>
    have h2 : (2 : Nat) ^ c < 2 ^ (c + 1) := Nat.pow_lt_pow_right (by decide) (Nat.lt_succ_self c)
    simp only [srF]
    split
    · exact Nat.or_lt_two_pow (Nat.lt_trans ih h2) h2
    · omega
theorem pow8 {c : Nat} (h : c ≤ 8) : 2 ^ c ≤ 256 := Nat.pow_le_pow_right (by decide) h
abbrev vk (kd v : Nat) : Prop := (kd = 0 ∧ 1 ≤ v ∧ v ≤ 100) ∨ (kd = 1 ∧ 1 ≤ v ∧ v ≤ 100000) ∨ (kd = 2 ∧ 2 ≤ v ∧ v ≤ 9) ∨ (kd = 3 ∧ v = 0)
/-- the search's answer: best set, least total, least total without lo -/
def srch (ν : Mm) (lo : Nat) : Nat × Nat × Nat := exF ν lo (ubF ν (ν 0 6)) 8 0 0 (f0L ν 1) (0, 610001, 610001)
