/-! ===== the tray, in numbers ===== -/
/-- all cells but i are as they were -/
def off1 (i : Nat) (ν μ : Mm) : Prop := ∀ a, a ≠ i → μ a = ν a
/-- all cells but i and j -/
def off2 (i j : Nat) (ν μ : Mm) : Prop := ∀ a, a ≠ i → a ≠ j → μ a = ν a
theorem off1_rf (i : Nat) (ν : Mm) : off1 i ν ν := fun _ _ => rfl
theorem off1.up {i j v : Nat} {ν μ : Mm} (h : off1 i ν μ) : off1 i ν (up2 μ i j v) := fun a ha => by rw [up2_ne ha]; exact h a ha
theorem off2_rf (i j : Nat) (ν : Mm) : off2 i j ν ν := fun _ _ _ => rfl
theorem off2.up1 {i j b v : Nat} {ν μ : Mm} (h : off2 i j ν μ) : off2 i j ν (up2 μ i b v) := fun a ha hb => by rw [up2_ne ha]; exact h a ha hb
theorem off2.up2 {i j b v : Nat} {ν μ : Mm} (h : off2 i j ν μ) : off2 i j ν (up2 μ j b v) := fun a ha hb => by rw [up2_ne hb]; exact h a ha hb
theorem off1.two {i j : Nat} {ν μ : Mm} (h : off1 i ν μ) : off2 i j ν μ := fun a ha _ => h a ha
theorem off1.two' {i j : Nat} {ν μ : Mm} (h : off1 j ν μ) : off2 i j ν μ := fun a _ hb => h a hb
theorem off1.trans {i : Nat} {ν μ κ : Mm} (h : off1 i ν μ) (h2 : off1 i μ κ) : off1 i ν κ := fun a ha => (h2 a ha).trans (h a ha)
theorem off2.trans {i j : Nat} {ν μ κ : Mm} (h : off2 i j ν μ) (h2 : off2 i j μ κ) : off2 i j ν κ := fun a ha hb => (h2 a ha hb).trans (h a ha hb)
/-- the rests of the first i pieces that match, together -/
def ms (ct : Nat → Nat) (cs : Nat) (f : Nat → Nat) : Nat → Nat
  | 0 => 0
  | i + 1 => if bt cs (ct i) = 1 then ms ct cs f i + f i else ms ct cs f i
/-- the rests of the first i pieces -/
def sm (f : Nat → Nat) : Nat → Nat
  | 0 => 0
  | i + 1 => sm f i + f i
/-- a share a b c of each that matches is taken from the first n -/
def shF (sh : Nat → Nat) (n : Nat) (ct : Nat → Nat) (cs : Nat) (f : Nat → Nat) : Nat → Nat := fun j => if j < n ∧ bt cs (ct j) = 1 then f j - sh (f j) else f j
theorem shF_0 {sh ct : Nat → Nat} {cs : Nat} {f : Nat → Nat} : shF sh 0 ct cs f = f := by
  funext j; simp [shF]
theorem shF_at {sh ct : Nat → Nat} {i cs : Nat} {f : Nat → Nat} : shF sh i ct cs f i = f i := by simp [shF]
theorem shF_step {sh ct : Nat → Nat} {i cs : Nat} {f : Nat → Nat} (h : bt cs (ct i) = 1) : va_up (shF sh i ct cs f) i (f i - sh (f i)) = shF sh (i + 1) ct cs f := by
  funext j
  by_cases e : j = i
  · subst e; simp [va_up, shF, h]
  · simp only [va_up, e, if_false, shF]
    by_cases k : j < i
    · simp [k, show j < i + 1 by omega]
    · simp [k, show ¬ j < i + 1 by omega]
theorem shF_skip {sh ct : Nat → Nat} {i cs : Nat} {f : Nat → Nat} (h : ¬ bt cs (ct i) = 1) : shF sh i ct cs f = shF sh (i + 1) ct cs f := by
  funext j
  simp only [shF]
  by_cases e : j = i
  · subst e; simp [h]
  · by_cases k : j < i
    · simp [k, show j < i + 1 by omega]
    · simp [k, show ¬ j < i + 1 by omega]
/-- what the shares are together -/
def us (sh ct : Nat → Nat) (cs : Nat) (f : Nat → Nat) : Nat → Nat
  | 0 => 0
  | i + 1 => if bt cs (ct i) = 1 then us sh ct cs f i + sh (f i) else us sh ct cs f i
theorem us_le {ct : Nat → Nat} {cs A S : Nat} {f : Nat → Nat} (i : Nat) : us (fun x => x * A / S) ct cs f i * S ≤ ms ct cs f i * A := by
  induction i with
  | zero => simp [us, ms]
  | succ i ih =>
    simp only [us, ms]
    split
    · have h := Nat.div_mul_le_self (f i * A) S
      rw [Nat.add_mul, Nat.add_mul]
      omega
    · exact ih
theorem ms_mono {ct : Nat → Nat} {cs : Nat} {f : Nat → Nat} {i n : Nat} (h : i ≤ n) : ms ct cs f i ≤ ms ct cs f n := by
  induction n with
  | zero => have : i = 0 := by omega
            subst this; exact Nat.le_refl _
  | succ n ih =>
    by_cases e : i = n + 1
    · subst e; exact Nat.le_refl _
    · have := ih (by omega)
      simp only [ms]
      split <;> omega
theorem us_A {ct : Nat → Nat} {cs A n i : Nat} {f : Nat → Nat} (h : i ≤ n) (hS : 0 < ms ct cs f n) : us (fun x => x * A / ms ct cs f n) ct cs f i ≤ A := by
  have h1 := us_le (ct := ct) (cs := cs) (A := A) (S := ms ct cs f n) (f := f) i
  have h2 : ms ct cs f i * A ≤ ms ct cs f n * A := Nat.mul_le_mul_right _ (ms_mono h)
  have h3 : us (fun x => x * A / ms ct cs f n) ct cs f i * ms ct cs f n ≤ A * ms ct cs f n := by rw [Nat.mul_comm A]; omega
  exact Nat.le_of_mul_le_mul_right h3 hS
theorem us_A1 {ct : Nat → Nat} {cs A n i : Nat} {f : Nat → Nat} (h : i < n) (hS : 0 < ms ct cs f n) (hb : bt cs (ct i) = 1) : us (fun x => x * A / ms ct cs f n) ct cs f i + f i * A / ms ct cs f n ≤ A := by
  have h1 := us_A (ct := ct) (cs := cs) (A := A) (f := f) (i := i + 1) (n := n) h hS
  simp only [us, if_pos hb] at h1
  exact h1
/-- ones are taken from the first of those that match: what is left to take, the row -/
def onS (ct : Nat → Nat) (cs : Nat) : Nat → Nat × (Nat → Nat) → Nat × (Nat → Nat)
  | 0, x => x
  | i + 1, x => if 0 < (onS ct cs i x).1 ∧ 0 < (onS ct cs i x).2 i ∧ bt cs (ct i) = 1 then ((onS ct cs i x).1 - 1, va_up (onS ct cs i x).2 i ((onS ct cs i x).2 i - 1)) else onS ct cs i x
theorem onS_stop {ct : Nat → Nat} {cs : Nat} {x : Nat × (Nat → Nat)} {i : Nat} (h : (onS ct cs i x).1 = 0) (j : Nat) : onS ct cs (i + j) x = onS ct cs i x := by
  induction j with
  | zero => rfl
  | succ j ih =>
    show onS ct cs ((i + j) + 1) x = _
    simp only [onS, ih]
    rw [if_neg (by omega)]
/-- where a piece with the rest x comes among the first r places of the row g -/
def insP (f g : Nat → Nat) (x : Nat) : Nat → Nat
  | 0 => 0
  | r + 1 => if f (g r) < x then insP f g x r else r + 1
theorem insP_le (f g : Nat → Nat) (x r : Nat) : insP f g x r ≤ r := by
  induction r with
  | zero => exact Nat.le_refl _
  | succ r ih => simp only [insP]; split <;> omega
/-- the places of the first i pieces that match: how many, the row -/
def rkS (ct : Nat → Nat) (cs : Nat) (f : Nat → Nat) : Nat → Nat × (Nat → Nat)
  | 0 => (0, fun _ => 0)
  | i + 1 => if bt cs (ct i) = 1 then ((rkS ct cs f i).1 + 1, fun j => if j < insP f (rkS ct cs f i).2 (f i) (rkS ct cs f i).1 then (rkS ct cs f i).2 j else if j = insP f (rkS ct cs f i).2 (f i) (rkS ct cs f i).1 then i else (rkS ct cs f i).2 (j - 1)) else rkS ct cs f i
theorem rkS_le (ct : Nat → Nat) (cs : Nat) (f : Nat → Nat) (i : Nat) : (rkS ct cs f i).1 ≤ i := by
  induction i with
  | zero => exact Nat.le_refl _
  | succ i ih =>
    simp only [rkS]
    split
    · exact Nat.succ_le_succ ih
    · omega
theorem rkS_lt (ct : Nat → Nat) (cs : Nat) (f : Nat → Nat) (i : Nat) : ∀ j, j < (rkS ct cs f i).1 → (rkS ct cs f i).2 j < i := by
  induction i with
  | zero => intro j h; simp [rkS] at h
  | succ i ih =>
    intro j h
    have hp := insP_le f (rkS ct cs f i).2 (f i) (rkS ct cs f i).1
    simp only [rkS] at h ⊢
    split at h
    · next hb =>
      rw [if_pos hb]
      simp only at h ⊢
      split
      · have := ih j (by omega); omega
      · split
        · omega
        · have := ih (j - 1) (by omega); omega
    · next hb =>
      rw [if_neg hb]
      have := ih j h; omega
/-- each v-th of the first r places of g is free -/
def tbS (v : Nat) (g : Nat → Nat) : Nat → Nat × (Nat → Nat) → Nat × (Nat → Nat)
  | 0, x => x
  | r + 1, x => if (tbS v g r x).1 + 1 = v then (0, va_up (tbS v g r x).2 (g r) 0) else ((tbS v g r x).1 + 1, (tbS v g r x).2)
theorem tbS_1 (v : Nat) (g : Nat → Nat) (f : Nat → Nat) (r : Nat) : (tbS v g r (0, f)).1 ≤ r := by
  induction r with
  | zero => exact Nat.le_refl _
  | succ r ih =>
    simp only [tbS]
    split
    · exact Nat.zero_le _
    · exact Nat.succ_le_succ ih
def pcF (n : Nat) (ct : Nat → Nat) (cs v : Nat) (f : Nat → Nat) : Nat → Nat := shF (fun x => x * v / 100) n ct cs f
def taF (n : Nat) (ct : Nat → Nat) (cs v : Nat) (f : Nat → Nat) : Nat → Nat :=
  if ms ct cs f n = 0 then f else (onS ct cs n (min (ms ct cs f n) v - us (fun x => x * min (ms ct cs f n) v / ms ct cs f n) ct cs f n, shF (fun x => x * min (ms ct cs f n) v / ms ct cs f n) n ct cs f)).2
def tbF (n : Nat) (ct : Nat → Nat) (cs v : Nat) (f : Nat → Nat) : Nat → Nat := (tbS v (rkS ct cs f n).2 (rkS ct cs f n).1 (0, f)).2
/-- a coupon of this kind goes over the row f of n pieces -/
def apF (n : Nat) (ct : Nat → Nat) (kd cs v : Nat) (f : Nat → Nat) : Nat → Nat :=
  if kd = 0 then pcF n ct cs v f else if kd = 1 then taF n ct cs v f else if kd = 2 then tbF n ct cs v f else f
theorem ms_le {ct : Nat → Nat} {cs : Nat} {f : Nat → Nat} {B n : Nat} (h : ∀ i, i < n → f i ≤ B) : ms ct cs f n ≤ n * B := by
  induction n with
  | zero => simp [ms]
  | succ n ih =>
    have h1 := ih (fun i hi => h i (by omega))
    have h2 := h n (by omega)
    rw [Nat.succ_mul]
    simp only [ms]
    split <;> omega
theorem sm_le {f : Nat → Nat} {B n : Nat} (h : ∀ i, i < n → f i ≤ B) : sm f n ≤ n * B := by
  induction n with
  | zero => simp [sm]
  | succ n ih =>
    have h1 := ih (fun i hi => h i (by omega))
    have h2 := h n (by omega)
    rw [Nat.succ_mul]
    simp only [sm]
    omega
theorem pct_le {x v : Nat} (h : v ≤ 100) : x * v / 100 ≤ x := Nat.div_le_of_le_mul (by rw [Nat.mul_comm 100]; exact Nat.mul_le_mul_left x h)
theorem shr_le {x A S : Nat} (h : A ≤ S) : x * A / S ≤ x := Nat.div_le_of_le_mul (by rw [Nat.mul_comm S]; exact Nat.mul_le_mul_left x h)
theorem onS_le {ct : Nat → Nat} {cs : Nat} {x : Nat × (Nat → Nat)} (i : Nat) : (onS ct cs i x).1 ≤ x.1 ∧ ∀ j, (onS ct cs i x).2 j ≤ x.2 j := by
  induction i with
  | zero => exact ⟨Nat.le_refl _, fun _ => Nat.le_refl _⟩
  | succ i ih =>
    simp only [onS]
    split
    · refine ⟨Nat.le_trans (Nat.sub_le _ _) ih.1, fun j => ?_⟩
      show va_up (onS ct cs i x).2 i ((onS ct cs i x).2 i - 1) j ≤ x.2 j
      by_cases e : j = i
      · subst e
        rw [va_up_self]
        exact Nat.le_trans (Nat.sub_le _ _) (ih.2 j)
      · rw [va_up_ne _ _ e]; exact ih.2 j
    · exact ih
theorem onS_y {ct : Nat → Nat} {cs i : Nat} {x : Nat × (Nat → Nat)} (h : 0 < (onS ct cs i x).1 ∧ 0 < (onS ct cs i x).2 i ∧ bt cs (ct i) = 1) : onS ct cs (i + 1) x = ((onS ct cs i x).1 - 1, va_up (onS ct cs i x).2 i ((onS ct cs i x).2 i - 1)) := if_pos h
theorem onS_n {ct : Nat → Nat} {cs i : Nat} {x : Nat × (Nat → Nat)} (h : ¬ (0 < (onS ct cs i x).1 ∧ 0 < (onS ct cs i x).2 i ∧ bt cs (ct i) = 1)) : onS ct cs (i + 1) x = onS ct cs i x := if_neg h
theorem tbS_y {v : Nat} {g : Nat → Nat} {r : Nat} {x : Nat × (Nat → Nat)} (h : (tbS v g r x).1 + 1 = v) : tbS v g (r + 1) x = (0, va_up (tbS v g r x).2 (g r) 0) := if_pos h
theorem tbS_n {v : Nat} {g : Nat → Nat} {r : Nat} {x : Nat × (Nat → Nat)} (h : ¬ (tbS v g r x).1 + 1 = v) : tbS v g (r + 1) x = ((tbS v g r x).1 + 1, (tbS v g r x).2) := if_neg h
theorem tbS_le {v : Nat} {g f : Nat → Nat} (r : Nat) : ∀ j, (tbS v g r (0, f)).2 j ≤ f j := by
  induction r with
  | zero => exact fun _ => Nat.le_refl _
  | succ r ih =>
    intro j
    simp only [tbS]
    split
    · by_cases e : j = g r
      · subst e; simp only; rw [va_up_self]; exact Nat.zero_le _
      · simp only; rw [va_up_ne _ _ e]; exact ih j
    · exact ih j
/-- the article of the j-th piece among those of the first a articles -/
def pcA (ν : Mm) (L : Nat) : Nat → Nat → Nat
  | 0 => fun _ => 0
  | a + 1 => fun j => if j < cnt ν L a then pcA ν L a j else a
theorem pcA_lt (ν : Mm) (L a : Nat) (h : 0 < a) (j : Nat) : pcA ν L a j < a := by
  induction a with
  | zero => omega
  | succ a ih =>
    simp only [pcA]
    split
    · by_cases e : a = 0
      · subst e; simp [cnt] at *
      · have := ih (by omega); omega
    · omega
theorem cnt_mono {ν : Mm} {L a b : Nat} (h : a ≤ b) : cnt ν L a ≤ cnt ν L b := by
  induction b with
  | zero => have : a = 0 := by omega
            subst this; exact Nat.le_refl _
  | succ b ih =>
    by_cases e : a = b + 1
    · subst e; exact Nat.le_refl _
    · have := ih (by omega)
      simp only [cnt]; omega
theorem cnt_le {ν : Mm} {L B a : Nat} (h : ∀ i, i < a → ν (L + 3) i ≤ B) : cnt ν L a ≤ a * B := by
  induction a with
  | zero => simp [cnt]
  | succ a ih =>
    have h1 := ih (fun i hi => h i (by omega))
    have h2 := h a (by omega)
    rw [Nat.succ_mul]
    simp only [cnt]; omega
