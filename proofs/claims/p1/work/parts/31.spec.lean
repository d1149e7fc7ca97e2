/-! ===== ranges of Int32; what the calls on a fresh desk answer ===== -/
def inR (v lo hi : Int32) : Bool := decide (lo ≤ v) && decide (v ≤ hi)
def bI (b : Bool) : Int32 := if b then 1 else 0
theorem inR_lo {v lo hi : Int32} (h : inR v lo hi = true) : ¬ v < lo := by
  simp only [inR, Bool.and_eq_true, decide_eq_true_eq] at h
  exact Int32.not_lt.mpr h.1
theorem inR_hi {v lo hi : Int32} (h : inR v lo hi = true) : v ≤ hi := by
  simp only [inR, Bool.and_eq_true, decide_eq_true_eq] at h
  exact h.2
theorem inR_gt {v lo hi : Int32} (h : inR v lo hi = true) : ¬ hi < v := Int32.not_lt.mpr (inR_hi h)
theorem inR_le {v hi : Int32} (h : v ≤ hi) : ¬ hi < v := Int32.not_lt.mpr h
theorem inR_t {v lo hi : Int32} (h1 : ¬ v < lo) (h2 : ¬ hi < v) : inR v lo hi = true := by
  simp only [inR, Bool.and_eq_true, decide_eq_true_eq]
  exact ⟨Int32.not_lt.mp h1, Int32.not_lt.mp h2⟩
theorem inR_fl {v lo hi : Int32} (h1 : v < lo) : inR v lo hi = false := by
  cases e : inR v lo hi
  · rfl
  · exact absurd h1 (inR_lo e)
theorem inR_fh {v lo hi : Int32} (h1 : hi < v) : inR v lo hi = false := by
  cases e : inR v lo hi
  · rfl
  · exact absurd h1 (inR_gt e)
theorem inR_no {v lo hi : Int32} (h : inR v lo hi = false) (h1 : ¬ v < lo) (h2 : ¬ hi < v) : False := by
  rw [inR_t h1 h2] at h; cases h
theorem inR_nat {v : Int32} (a b : Nat) (ha : a < 2 ^ 31) (hb : b < 2 ^ 31) (h : inR v (nI a) (nI b) = true) : ∃ n, v = nI n ∧ a ≤ n ∧ n ≤ b := by
  simp only [inR, Bool.and_eq_true, decide_eq_true_eq] at h
  obtain ⟨h1, h2⟩ := h
  rw [Int32.le_iff_toInt_le, nI_toInt ha] at h1
  rw [Int32.le_iff_toInt_le, nI_toInt hb] at h2
  refine ⟨v.toInt.toNat, Int32.toInt_inj.mp ?_, by omega, by omega⟩
  rw [nI_toInt (by omega)]
  omega
theorem inR_00 {v : Int32} (h : inR v 0 0 = true) : v = nI 0 := by
  obtain ⟨n, rfl, h1, h2⟩ := inR_nat 0 0 (by decide) (by decide) h
  rw [show n = 0 by omega]
theorem inR_no1 {v : Int32} (h : inR v 0 0 = false) (h1 : ¬ v < 0) (h2 : v < 1) : False := by
  refine inR_no h h1 (fun h3 => ?_)
  rw [Int32.lt_iff_toInt_lt] at h2 h3
  have e1 : (1 : Int32).toInt = 1 := by decide
  have e0 : (0 : Int32).toInt = 0 := by decide
  rw [e1] at h2
  rw [e0] at h3
  omega
theorem inR_m1 (v : Int32) : inR v 0 (-1) = false := by
  cases e : inR v 0 (-1)
  · rfl
  · have h1 := inR_lo e
    have h2 := inR_hi e
    exfalso
    refine h1 (Int32.lt_of_le_of_lt h2 (by decide))
theorem bI_cases {r : Int32} {b : Bool} (h : r = bI b) : (b = true ∧ r = 1) ∨ (b = false ∧ r = 0) := by
  subst h
  cases b
  · exact Or.inr ⟨rfl, rfl⟩
  · exact Or.inl ⟨rfl, rfl⟩
theorem sw4 (k : Int32) : k = 0 ∨ k = 1 ∨ k = 2 ∨ k = 3 ∨ (k.toInt < 0 ∨ 3 < k.toInt) := by
  have e0 : (0 : Int32).toInt = 0 := by decide
  have e1 : (1 : Int32).toInt = 1 := by decide
  have e2 : (2 : Int32).toInt = 2 := by decide
  have e3 : (3 : Int32).toInt = 3 := by decide
  have h : k.toInt = 0 ∨ k.toInt = 1 ∨ k.toInt = 2 ∨ k.toInt = 3 ∨ (k.toInt < 0 ∨ 3 < k.toInt) := by omega
  rcases h with h | h | h | h | h
  · exact Or.inl (Int32.toInt_inj.mp (h.trans e0.symm))
  · exact Or.inr (Or.inl (Int32.toInt_inj.mp (h.trans e1.symm)))
  · exact Or.inr (Or.inr (Or.inl (Int32.toInt_inj.mp (h.trans e2.symm))))
  · exact Or.inr (Or.inr (Or.inr (Or.inl (Int32.toInt_inj.mp (h.trans e3.symm)))))
  · exact Or.inr (Or.inr (Or.inr (Or.inr h)))
def isVal (k v : Int32) : Bool := (k == 0 && inR v 1 100) || (k == 1 && inR v 1 100000) || (k == 2 && inR v 2 9) || (k == 3 && v == 0)
theorem isVal_out {k v : Int32} (h : k.toInt < 0 ∨ 3 < k.toInt) : isVal k v = false := by
  have h0 : k ≠ 0 := fun q => by subst q; exact absurd h (by decide)
  have h1 : k ≠ 1 := fun q => by subst q; exact absurd h (by decide)
  have h2 : k ≠ 2 := fun q => by subst q; exact absurd h (by decide)
  have h3 : k ≠ 3 := fun q => by subst q; exact absurd h (by decide)
  simp [isVal, h0, h1, h2, h3]
theorem isVal_vk {k v : Int32} (h : isVal k v = true) : ∃ a b : Nat, k = nI a ∧ v = nI b ∧ vk a b := by
  rcases sw4 k with rfl | rfl | rfl | rfl | h1
  · have h2 : inR v 1 100 = true := by simpa [isVal] using h
    obtain ⟨n, rfl, h3, h4⟩ := inR_nat 1 100 (by decide) (by decide) h2
    exact ⟨0, n, rfl, rfl, by unfold vk; omega⟩
  · have h2 : inR v 1 100000 = true := by simpa [isVal] using h
    obtain ⟨n, rfl, h3, h4⟩ := inR_nat 1 100000 (by decide) (by decide) h2
    exact ⟨1, n, rfl, rfl, by unfold vk; omega⟩
  · have h2 : inR v 2 9 = true := by simpa [isVal] using h
    obtain ⟨n, rfl, h3, h4⟩ := inR_nat 2 9 (by decide) (by decide) h2
    exact ⟨2, n, rfl, rfl, by unfold vk; omega⟩
  · have h2 : v = 0 := by simpa [isVal] using h
    subst h2
    exact ⟨3, 0, rfl, rfl, by unfold vk; omega⟩
  · rw [isVal_out h1] at h; cases h
/-- the codes of the calls on a fresh desk: 0 answered, 1 and 2 and 3 refused -/
def kAA (p c : Int32) : Int32 := bI (!(inR p 1 10000 && inR c 0 7))
def kSS (f li : Int32) : Int32 := bI (!(inR f 0 10000 && inR li 0 1000000))
def kAC (k v s m g : Int32) : Int32 := bI (!(isVal k v && inR s 1 255 && inR m 0 1000000 && inR g 0 3))
def kSet (s : Int32) : Int32 := bI (!(inR s 0 0))
def kTwo (s : Int32) : Int32 := if inR s 0 0 = true then 2 else 1
