/-! ===== the best set is the least of all allowed ones ===== -/
theorem bt_tb (n k : Nat) : (bt n k = 1) ↔ n.testBit k = true := by
  rw [Nat.testBit_eq_decide_div_mod_eq]; unfold bt; exact (decide_eq_true_iff).symm
theorem bt_cases (n k : Nat) : bt n k = 0 ∨ bt n k = 1 := by have := bt_le n k; omega
theorem bt_ext {m n j k : Nat} (h : m.testBit j = n.testBit k) : bt m j = bt n k := by
  have h1 := bt_tb m j
  have h2 := bt_tb n k
  rcases bt_cases m j with a | a <;> rcases bt_cases n k with b | b
  · omega
  · exfalso; rw [h2.mp b] at h; have := h1.mpr h; omega
  · exfalso; rw [h1.mp a] at h; have := h2.mpr h.symm; omega
  · omega
theorem bt_mod {T m k : Nat} (h : k < m) : bt (T % 2 ^ m) k = bt T k := bt_ext (by rw [Nat.testBit_mod_two_pow]; simp [h])
theorem bt_zero {st m k : Nat} (h : st < 2 ^ m) (hk : m ≤ k) : bt st k = 0 := by
  unfold bt
  rw [Nat.div_eq_of_lt (Nat.lt_of_lt_of_le h (Nat.pow_le_pow_right (by decide) hk))]
theorem mod_mod2 (T : Nat) {m k : Nat} (h : k ≤ m) : T % 2 ^ m % 2 ^ k = T % 2 ^ k :=
  Nat.mod_mod_of_dvd T ⟨2 ^ (m - k), by rw [← Nat.pow_add]; congr 1; omega⟩
theorem mod_succ2 (T k : Nat) : T % 2 ^ (k + 1) = T % 2 ^ k + 2 ^ k * bt T k := Nat.mod_pow_succ
theorem or_pow {st k : Nat} (h : st < 2 ^ k) : st ||| 2 ^ k = st + 2 ^ k := by
  have := Nat.two_pow_add_eq_or_of_lt h 1
  rw [Nat.mul_one] at this
  rw [Nat.or_comm, ← this, Nat.add_comm]
theorem and_mask (a k : Nat) : a &&& (2 ^ k - 1) = a % 2 ^ k := Nat.and_two_pow_sub_one_eq_mod a k
theorem bt_add_pow {st k : Nat} (h : st < 2 ^ k) : bt (st + 2 ^ k) k = 1 := by
  unfold bt
  rw [Nat.add_div_right _ (Nat.two_pow_pos k), Nat.div_eq_of_lt h]
theorem alF_mod {ν : Mm} {T m n : Nat} (h : n ≤ m) : alF ν (T % 2 ^ m) n = alF ν T n := by
  induction n with
  | zero => rfl
  | succ n ih => rw [alF_succ, alF_succ, ih (by omega), bt_mod (by omega), and_mask, and_mask, mod_mod2 T (by omega)]
theorem alF_pad {ν : Mm} {st nx n : Nat} (h : st < 2 ^ nx) (hn : nx ≤ n) : alF ν st n = alF ν st nx := by
  induction n with
  | zero => rw [show nx = 0 by omega]
  | succ n ih =>
    by_cases e : nx = n + 1
    · rw [e]
    · rw [alF_succ, ih (by omega), bt_zero h (by omega)]; simp
theorem rsF_mod {ν : Mm} {L T m n : Nat} (h : n ≤ m) : rsF ν L (T % 2 ^ m) n = rsF ν L T n := by
  induction n with
  | zero => rfl
  | succ n ih => rw [rsF_succ, rsF_succ, ih (by omega), bt_mod (by omega)]
theorem rsF_pad {ν : Mm} {L st nx n : Nat} (h : st < 2 ^ nx) (hn : nx ≤ n) : rsF ν L st n = rsF ν L st nx := by
  induction n with
  | zero => rw [show nx = 0 by omega]
  | succ n ih =>
    by_cases e : nx = n + 1
    · rw [e]
    · rw [rsF_succ, ih (by omega), bt_zero h (by omega), if_neg (by decide)]
theorem ubF_bt {ν : Mm} {c k : Nat} (h : k < c) : bt (ubF ν c) k = 1 ↔ usab ν k := by
  induction c with
  | zero => omega
  | succ c ih =>
    have hl := ubF_lt (ν := ν) c
    have low : k < c → bt (ubF ν (c + 1)) k = bt (ubF ν c) k := fun hk => by
      simp only [ubF]
      split
      · rw [or_pow hl, ← bt_mod (T := ubF ν c + 2 ^ c) hk, Nat.add_mod_right, Nat.mod_eq_of_lt hl]
      · rfl
    by_cases e : k = c
    · subst e
      simp only [ubF]
      split
      · next hu => rw [or_pow hl, bt_add_pow hl]; exact ⟨fun _ => hu, fun _ => rfl⟩
      · next hu => rw [bt_zero hl (Nat.le_refl _)]; exact ⟨fun q => absurd q (by decide), fun q => absurd q hu⟩
    · rw [low (by omega)]; exact ih (by omega)
/-- as good as st at pr, or better -/
def aG (S : Nat × Nat × Nat) (st pr : Nat) : Prop := ¬ better pr st S.2.1 S.1
theorem aG_self {lo st pr : Nat} {S : Nat × Nat × Nat} : aG (of3 lo st pr S) st pr := by
  unfold aG of3
  by_cases h : better pr st S.2.1 S.1
  · simp only [if_pos h]; unfold better; omega
  · simp only [if_neg h]; exact h
theorem aG_mono {lo st pr a b : Nat} {S : Nat × Nat × Nat} (h : aG S a b) : aG (of3 lo st pr S) a b := by
  unfold aG at h ⊢
  unfold of3
  by_cases h2 : better pr st S.2.1 S.1
  · simp only [if_pos h2]
    unfold better at h h2 ⊢
    omega
  · simp only [if_neg h2]; exact h
def toT (ν : Mm) (st : Nat) : Nat := gdF ν 1 st + feF ν st (gdF ν 1 st)
theorem toF_T (ν : Mm) (st : Nat) : toF ν st (rsF ν 1 st (ν 0 6)) = toT ν st := rfl
/-- a set found, or none yet -/
def fnd (ν : Mm) (S : Nat × Nat × Nat) : Prop := (S.2.1 = 610001 ∧ S.1 = 0) ∨ (al ν S.1 = true ∧ S.1 < 2 ^ ν 0 6 ∧ S.2.1 = toT ν S.1)
theorem fnd_of3 {ν : Mm} {lo st : Nat} {S : Nat × Nat × Nat} (h : fnd ν S) (h1 : al ν st = true) (h2 : st < 2 ^ ν 0 6) : fnd ν (of3 lo st (toT ν st) S) := by
  unfold of3
  by_cases h3 : better (toT ν st) st S.2.1 S.1
  · simp only [if_pos h3]; exact Or.inr ⟨h1, h2, rfl⟩
  · simp only [if_neg h3]; exact h
theorem itr_inv {σ : Type} {F : Nat → σ → σ} {a : Nat} {P : σ → Prop} (n : Nat) (h : ∀ k S, a ≤ k → k < a + n → P S → P (F k S)) : ∀ S, P S → P (itr F a n S) := by
  induction n with
  | zero => exact fun S hS => hS
  | succ n ih => exact fun S hS => h (a + n) _ (by omega) (by omega) (ih (fun k S h1 h2 => h k S h1 (by omega)) S hS)
theorem itr_hit {σ : Type} {F : Nat → σ → σ} {a k0 : Nat} {Z : σ → Prop} (n : Nat) (h0 : a ≤ k0) (h1 : k0 < a + n) (hit : ∀ S, Z (F k0 S)) (keep : ∀ k S, a ≤ k → k < a + n → Z S → Z (F k S)) : ∀ S, Z (itr F a n S) := by
  induction n with
  | zero => omega
  | succ n ih =>
    intro S
    by_cases e : k0 = a + n
    · subst e; exact hit _
    · exact keep (a + n) _ (by omega) (by omega) (ih (by omega) (fun k S h1 h2 => keep k S h1 (by omega)) S)
/-- the lowest bit at nx or above -/
theorem low_bit {T nx : Nat} (c : Nat) (h : nx ≤ c) (hT : T % 2 ^ c ≠ T % 2 ^ nx) : ∃ k, nx ≤ k ∧ k < c ∧ bt T k = 1 ∧ T % 2 ^ k = T % 2 ^ nx := by
  induction c with
  | zero => exact absurd (by rw [show nx = 0 by omega]) hT
  | succ c ih =>
    by_cases e : nx = c + 1
    · exact absurd (by rw [e]) hT
    by_cases e2 : T % 2 ^ c = T % 2 ^ nx
    · refine ⟨c, by omega, by omega, ?_, e2⟩
      rcases bt_cases T c with b | b
      · rw [mod_succ2, b, Nat.mul_zero, Nat.add_zero] at hT; exact absurd e2 hT
      · exact b
    · obtain ⟨k, h1, h2, h3, h4⟩ := ih (by omega) e2
      exact ⟨k, h1, by omega, h3, h4⟩
theorem ex_succ (ν : Mm) (lo us fu st nx : Nat) (f : Nat → Nat) (S : Nat × Nat × Nat) : exF ν lo us (fu + 1) st nx f S = itr (fun k S => if bt us k = 1 ∧ gf ν k st = true then exF ν lo us fu (st ||| 2 ^ k) (k + 1) (apK ν 1 k f) S else S) nx (ν 0 6 - nx) (of3 lo st (toF ν st f) S) := rfl
theorem ex_main {ν : Mm} {lo : Nat} (fu : Nat) : ∀ (nx st : Nat), nx ≤ ν 0 6 → ν 0 6 ≤ nx + fu → st < 2 ^ nx → alF ν st nx = true → ∀ S : Nat × Nat × Nat,
    (∀ a b, aG S a b → aG (exF ν lo (ubF ν (ν 0 6)) fu st nx (rsF ν 1 st nx) S) a b) ∧ (fnd ν S → fnd ν (exF ν lo (ubF ν (ν 0 6)) fu st nx (rsF ν 1 st nx) S)) ∧ ∀ T, T < 2 ^ ν 0 6 → al ν T = true → T % 2 ^ nx = st → aG (exF ν lo (ubF ν (ν 0 6)) fu st nx (rsF ν 1 st nx) S) T (toT ν T) := by
  induction fu with
  | zero =>
    intro nx st h1 h2 h3 h4 S
    have e : nx = ν 0 6 := by omega
    have es : exF ν lo (ubF ν (ν 0 6)) 0 st nx (rsF ν 1 st nx) S = of3 lo st (toT ν st) S := by
      show of3 lo st (toF ν st (rsF ν 1 st nx)) S = _
      rw [e, toF_T]
    rw [es]
    refine ⟨fun a b h => aG_mono h, fun h => fnd_of3 h (by unfold al; rw [← e]; exact h4) (by rw [← e]; exact h3), fun T hT _ hm => ?_⟩
    rw [e, Nat.mod_eq_of_lt hT] at hm
    rw [hm]; exact aG_self
  | succ fu ih =>
    intro nx st h1 h2 h3 h4 S
    have er : rsF ν 1 st nx = rsF ν 1 st (ν 0 6) := (rsF_pad h3 h1).symm
    have hal : al ν st = true := by unfold al; rw [alF_pad h3 h1]; exact h4
    have hlt : st < 2 ^ ν 0 6 := Nat.lt_of_lt_of_le h3 (Nat.pow_le_pow_right (by decide) h1)
    rw [ex_succ, show toF ν st (rsF ν 1 st nx) = toT ν st by rw [er, toF_T]]
    -- a step
    have step : ∀ k, nx ≤ k → k < ν 0 6 → bt (ubF ν (ν 0 6)) k = 1 ∧ gf ν k st = true → st ||| 2 ^ k < 2 ^ (k + 1) ∧ alF ν (st ||| 2 ^ k) (k + 1) = true ∧ apK ν 1 k (rsF ν 1 st nx) = rsF ν 1 (st ||| 2 ^ k) (k + 1) := by
      intro k hk1 hk2 hg
      have hsk : st < 2 ^ k := Nat.lt_of_lt_of_le h3 (Nat.pow_le_pow_right (by decide) hk1)
      rw [or_pow hsk]
      have hm : (st + 2 ^ k) % 2 ^ k = st := by rw [Nat.add_mod_right, Nat.mod_eq_of_lt hsk]
      refine ⟨by rw [Nat.pow_succ]; omega, ?_, ?_⟩
      · have ha : alF ν (st + 2 ^ k) k = true := by
          rw [← alF_mod (Nat.le_refl k), hm, alF_pad h3 hk1]; exact h4
        rw [alF_succ, ha, and_mask, hm, hg.2, decide_eq_true ((ubF_bt hk2).mp hg.1)]
        simp
      · rw [rsF_succ, if_pos (bt_add_pow hsk), ← rsF_mod (T := st + 2 ^ k) (Nat.le_refl k), hm, rsF_pad h3 hk1]
    have keepA : ∀ a b k (S : Nat × Nat × Nat), nx ≤ k → k < nx + (ν 0 6 - nx) → aG S a b → aG (if bt (ubF ν (ν 0 6)) k = 1 ∧ gf ν k st = true then exF ν lo (ubF ν (ν 0 6)) fu (st ||| 2 ^ k) (k + 1) (apK ν 1 k (rsF ν 1 st nx)) S else S) a b := by
      intro a b k S hk1 hk2 hS
      by_cases hg : bt (ubF ν (ν 0 6)) k = 1 ∧ gf ν k st = true
      · rw [if_pos hg]
        obtain ⟨s1, s2, s3⟩ := step k hk1 (by omega) hg
        rw [s3]
        exact (ih (k + 1) (st ||| 2 ^ k) (by omega) (by omega) s1 s2 S).1 a b hS
      · rw [if_neg hg]; exact hS
    refine ⟨fun a b h => itr_inv _ (fun k S hk1 hk2 hS => keepA a b k S hk1 hk2 hS) _ (aG_mono h), fun h => itr_inv _ (fun k S hk1 hk2 hS => ?_) _ (fnd_of3 h hal hlt), fun T hT hTa hm => ?_⟩
    · by_cases hg : bt (ubF ν (ν 0 6)) k = 1 ∧ gf ν k st = true
      · simp only [if_pos hg]
        obtain ⟨s1, s2, s3⟩ := step k hk1 (by omega) hg
        rw [s3]
        exact (ih (k + 1) (st ||| 2 ^ k) (by omega) (by omega) s1 s2 S).2.1 hS
      · simp only [if_neg hg]; exact hS
    · by_cases e : T % 2 ^ ν 0 6 = T % 2 ^ nx
      · rw [Nat.mod_eq_of_lt hT, hm] at e
        subst e
        exact itr_inv _ (fun k S hk1 hk2 hS => keepA _ _ k S hk1 hk2 hS) _ aG_self
      · obtain ⟨k, k1, k2, k3, k4⟩ := low_bit (ν 0 6) h1 e
        have ha := alF_all (show alF ν T (ν 0 6) = true from hTa) k2 k3
        rw [and_mask, k4, hm] at ha
        have hg : bt (ubF ν (ν 0 6)) k = 1 ∧ gf ν k st = true := ⟨(ubF_bt k2).mpr ha.1, ha.2⟩
        obtain ⟨s1, s2, s3⟩ := step k k1 k2 hg
        refine itr_hit (k0 := k) _ k1 (by omega) (fun S => ?_) (fun k S hk1 hk2 hS => keepA _ _ k S hk1 hk2 hS) _
        simp only [if_pos hg]
        rw [s3]
        refine (ih (k + 1) (st ||| 2 ^ k) (by omega) (by omega) s1 s2 S).2.2 T hT hTa ?_
        have hsk : st < 2 ^ k := Nat.lt_of_lt_of_le h3 (Nat.pow_le_pow_right (by decide) k1)
        rw [mod_succ2, k3, k4, hm, Nat.mul_one, or_pow hsk]
theorem alF_zero (ν : Mm) (n : Nat) : alF ν 0 n = true := by
  rw [alF_pad (nx := 0) (by decide) (Nat.zero_le n)]; rfl
theorem toT_le {ν : Mm} (hW : WD ν) (st : Nat) : toT ν st ≤ 610000 := by
  have h1 := gdF_le hW lotB_1 st
  have h2 := feF_le hW st (gdF ν 1 st)
  unfold toT; omega
/-- the best set -/
theorem srch_best {ν : Mm} (hW : WD ν) (lo : Nat) : al ν (srch ν lo).1 = true ∧ (srch ν lo).1 < 2 ^ ν 0 6 ∧ ∀ T, T < 2 ^ ν 0 6 → al ν T = true → ¬ better (toT ν T) T (toT ν (srch ν lo).1) (srch ν lo).1 := by
  have hm := ex_main (ν := ν) (lo := lo) 8 0 0 (Nat.zero_le _) (by have := hW.nc; omega) (by decide) rfl (0, 610001, 610001)
  have e : exF ν lo (ubF ν (ν 0 6)) 8 0 0 (rsF ν 1 0 0) (0, 610001, 610001) = srch ν lo := rfl
  rw [e] at hm
  obtain ⟨-, h2, h3⟩ := hm
  have h0 := h3 0 (Nat.two_pow_pos _) (alF_zero ν _) (Nat.zero_mod _)
  rcases h2 (Or.inl ⟨rfl, rfl⟩) with ⟨q1, q2⟩ | ⟨q1, q2, q3⟩
  · exfalso
    have := toT_le hW 0
    unfold aG better at h0
    rw [q1] at h0
    omega
  · refine ⟨q1, q2, fun T hT hTa => ?_⟩
    have := h3 T hT hTa (Nat.mod_one _)
    unfold aG at this
    rw [q3] at this
    exact this
