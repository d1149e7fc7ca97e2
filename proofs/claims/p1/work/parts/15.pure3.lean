/-! ===== a lot laid on the tray, in numbers ===== -/
/-- all cells but the tray's articles, categories and first row -/
def off3 (ν μ : Mm) : Prop := ∀ a, a ≠ 8 → a ≠ 9 → a ≠ 11 → μ a = ν a
theorem off3_rf {ν : Mm} : off3 ν ν := fun _ _ _ _ => rfl
theorem off3_step {ν μ : Mm} {j u v w : Nat} (h : off3 ν μ) : off3 ν (up2 (up2 (up2 μ 8 j u) 9 j v) (11 + 0) j w) := fun a h1 h2 h3 => by
  rw [up2_ne h3, up2_ne h2, up2_ne h1]; exact h a h1 h2 h3
/-- the first n pieces lie there, of the first a articles of the lot L -/
def layQ (ν : Mm) (L a n : Nat) (μ : Mm) : Prop := ∀ j, j < n → μ 8 j = pcA ν L a j ∧ μ 9 j = ν (L + 2) (pcA ν L a j) ∧ μ 11 j = ν (L + 1) (pcA ν L a j)
def layP (ν : Mm) (L : Nat) (μ : Mm) : Prop := μ 7 4 = cnt ν L 10 ∧ (∀ j, j ≠ 4 → μ 7 j = ν 7 j) ∧ (∀ a, a ≠ 7 → a ≠ 8 → a ≠ 9 → a ≠ 11 → μ a = ν a) ∧ layQ ν L 10 (cnt ν L 10) μ
theorem layQ_next {ν μ : Mm} {L a : Nat} (h : layQ ν L a (cnt ν L a) μ) : layQ ν L (a + 1) (cnt ν L a + 0) μ := by
  intro j hj
  have hj : j < cnt ν L a := hj
  have e : pcA ν L (a + 1) j = pcA ν L a j := if_pos hj
  rw [e]
  exact h j hj
theorem layQ_step {ν μ : Mm} {L a x : Nat} (hL : lotB L) (hof : off3 ν μ) (h : layQ ν L (a + 1) (cnt ν L a + x) μ) (hx : cnt ν L a + x < 60) : layQ ν L (a + 1) (cnt ν L a + (x + 1)) (up2 (up2 (up2 μ 8 (cnt ν L a + x) a) 9 (cnt ν L a + x) (up2 μ 8 (cnt ν L a + x) a (L + 2) a)) (11 + 0) (cnt ν L a + x) (up2 (up2 μ 8 (cnt ν L a + x) a) 9 (cnt ν L a + x) (up2 μ 8 (cnt ν L a + x) a (L + 2) a) (L + 1) a)) := by
  have hLo : L = 1 ∨ 31 ≤ L := by rcases hL with h | ⟨k, -, h⟩ <;> omega
  have e1 : up2 μ 8 (cnt ν L a + x) a (L + 2) a = ν (L + 2) a := by rw [up2_ne (by omega), hof _ (by omega) (by omega) (by omega)]
  have e2 : up2 (up2 μ 8 (cnt ν L a + x) a) 9 (cnt ν L a + x) (up2 μ 8 (cnt ν L a + x) a (L + 2) a) (L + 1) a = ν (L + 1) a := by rw [up2_ne (by omega), up2_ne (by omega), hof _ (by omega) (by omega) (by omega)]
  rw [e2, e1]
  intro j hj
  have q8 : up2 (up2 (up2 μ 8 (cnt ν L a + x) a) 9 (cnt ν L a + x) (ν (L + 2) a)) (11 + 0) (cnt ν L a + x) (ν (L + 1) a) 8 = va_up (μ 8) (cnt ν L a + x) a := by rw [up2_ne (by decide), up2_ne (by decide), up2_row]
  have q9 : up2 (up2 (up2 μ 8 (cnt ν L a + x) a) 9 (cnt ν L a + x) (ν (L + 2) a)) (11 + 0) (cnt ν L a + x) (ν (L + 1) a) 9 = va_up (μ 9) (cnt ν L a + x) (ν (L + 2) a) := by rw [up2_ne (by decide), up2_row, up2_ne (by decide)]
  have q11 : up2 (up2 (up2 μ 8 (cnt ν L a + x) a) 9 (cnt ν L a + x) (ν (L + 2) a)) (11 + 0) (cnt ν L a + x) (ν (L + 1) a) 11 = va_up (μ 11) (cnt ν L a + x) (ν (L + 1) a) := by rw [up2_row, up2_ne (by decide), up2_ne (by decide)]
  rw [q8, q9, q11]
  by_cases e : j = cnt ν L a + x
  · subst e
    have e3 : pcA ν L (a + 1) (cnt ν L a + x) = a := if_neg (by omega)
    rw [e3, va_up_self, va_up_self, va_up_self]
    exact ⟨rfl, rfl, rfl⟩
  · rw [va_up_ne _ _ e, va_up_ne _ _ e, va_up_ne _ _ e]
    exact h j (by omega)
theorem layP_of {ν μ : Mm} {L : Nat} (hof : off3 ν μ) (h : layQ ν L 10 (cnt ν L 10) μ) : layP ν L (up2 μ 7 4 (cnt ν L 10)) := by
  refine ⟨up2_at _ _ _ _, fun j hj => ?_, fun a h1 h2 h3 h4 => ?_, fun j hj => ?_⟩
  · rw [up2_ne2 hj, hof 7 (by decide) (by decide) (by decide)]
  · rw [up2_ne h1]; exact hof a h2 h3 h4
  · rw [up2_ne (by decide), up2_ne (by decide), up2_ne (by decide)]
    exact h j hj
