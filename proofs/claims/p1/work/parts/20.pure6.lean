/-! ===== the search, in numbers ===== -/
/-- an offer: best set, least total, least total without those left out -/
def of3 (lo st pr : Nat) (S : Nat × Nat × Nat) : Nat × Nat × Nat :=
  (if better pr st S.2.1 S.1 then st else S.1, if better pr st S.2.1 S.1 then pr else S.2.1, if st &&& lo = 0 then min S.2.2 pr else S.2.2)
def itr {σ : Type} (F : Nat → σ → σ) (a : Nat) : Nat → σ → σ
  | 0, s => s
  | i + 1, s => F (a + i) (itr F a i s)
/-- the total of the set st over the rests f -/
def toF (ν : Mm) (st : Nat) (f : Nat → Nat) : Nat := sm f (cnt ν 1 10) + feF ν st (sm f (cnt ν 1 10))
def exF (ν : Mm) (lo us : Nat) : Nat → Nat → Nat → (Nat → Nat) → Nat × Nat × Nat → Nat × Nat × Nat
  | 0, st, _, f, S => of3 lo st (toF ν st f) S
  | fu + 1, st, nx, f, S => itr (fun k S => if bt us k = 1 ∧ gf ν k st = true then exF ν lo us fu (st ||| 2 ^ k) (k + 1) (apK ν 1 k f) S else S) nx (ν 0 6 - nx) (of3 lo st (toF ν st f) S)
/-- what the search holds -/
def s3 (μ : Mm) : Nat × Nat × Nat := (μ 21 2, μ 21 3, μ 21 4)
theorem offer_3 (ν : Mm) (st pr : Nat) : s3 (offerM ν st pr) = of3 (ν 21 0) st pr (s3 ν) := by
  unfold offerM of3 s3
  by_cases h : st &&& ν 21 0 = 0 <;> by_cases h2 : better pr st (ν 21 3) (ν 21 2)
  · simp only [if_pos h, if_pos h2]
    simp [up2_if]
  · simp only [if_pos h, if_neg h2]
    simp [up2_if]
  · simp only [if_neg h, if_pos h2]
    simp [up2_if]
  · simp only [if_neg h, if_neg h2]
theorem offer_off (ν : Mm) (st pr : Nat) : off1 21 ν (offerM ν st pr) := by
  intro a ha
  unfold offerM
  by_cases h : st &&& ν 21 0 = 0 <;> by_cases h2 : better pr st (ν 21 3) (ν 21 2)
  · simp only [if_pos h, if_pos h2]; rw [up2_ne ha, up2_ne ha, up2_ne ha]
  · simp only [if_pos h, if_neg h2]; rw [up2_ne ha]
  · simp only [if_neg h, if_pos h2]; rw [up2_ne ha, up2_ne ha]
  · simp only [if_neg h, if_neg h2]
theorem offer_01 (ν : Mm) (st pr : Nat) : offerM ν st pr 21 0 = ν 21 0 ∧ offerM ν st pr 21 1 = ν 21 1 := by
  unfold offerM
  by_cases h : st &&& ν 21 0 = 0 <;> by_cases h2 : better pr st (ν 21 3) (ν 21 2)
  · simp only [if_pos h, if_pos h2]; simp [up2_if]
  · simp only [if_pos h, if_neg h2]; simp [up2_if]
  · simp only [if_neg h, if_pos h2]; simp [up2_if]
  · simp only [if_neg h, if_neg h2]; simp
/-- the search's numbers are in their bounds -/
def sOK (μ : Mm) : Prop := μ 21 1 < 2 ^ 31 ∧ μ 21 2 < 256 ∧ μ 21 3 < 2 ^ 31 ∧ μ 21 4 < 2 ^ 31
theorem offer_OK {ν : Mm} {st pr : Nat} (h : sOK ν) (hs : st < 256) (hp : pr < 2 ^ 31) : sOK (offerM ν st pr) := by
  have e := offer_3 ν st pr
  have e2 := (offer_01 ν st pr).2
  obtain ⟨h1, h2, h3, h4⟩ := h
  unfold s3 of3 at e
  simp only [Prod.mk.injEq] at e
  obtain ⟨e3, e4, e5⟩ := e
  refine ⟨by rw [e2]; exact h1, ?_, ?_, ?_⟩
  · rw [e3]; split <;> omega
  · rw [e4]; split <;> omega
  · rw [e5]; split <;> omega
/-- what a call of extend at depth dp leaves -/
def exP (dp : Nat) (ν μ : Mm) : Prop := μ 21 0 = ν 21 0 ∧ μ 21 1 = ν 21 1 ∧ sOK μ ∧ ∀ i, i ≠ 21 → i ≠ 20 → (i ≤ 11 + dp ∨ 19 < i) → μ i = ν i
theorem exP.trans {dp : Nat} {ν μ κ : Mm} (h : exP dp ν μ) (h2 : exP dp μ κ) : exP dp ν κ :=
  ⟨h2.1.trans h.1, h2.2.1.trans h.2.1, h2.2.2.1, fun i a b c => (h2.2.2.2 i a b c).trans (h.2.2.2 i a b c)⟩
theorem exP.dsk {dp : Nat} {ν μ : Mm} (h : exP dp ν μ) : dsk ν μ := fun i hi => h.2.2.2 i (by omega) (by omega) (by omega)
theorem exP_offer {dp st pr : Nat} {ν : Mm} (h : sOK ν) (hs : st < 256) (hp : pr < 2 ^ 31) : exP dp ν (offerM ν st pr) :=
  ⟨(offer_01 ν st pr).1, (offer_01 ν st pr).2, offer_OK h hs hp, fun i a _ _ => offer_off ν st pr i a⟩
theorem sm_TL {σ κ : Mm} {f : Nat → Nat} {r : Nat} (hT : κ 7 4 = cnt σ 1 10) (hf : ∀ j, j < cnt σ 1 10 → κ (11 + r) j = f j) : sm (κ (11 + r)) (κ 7 4) = sm f (cnt σ 1 10) := by
  rw [hT]; exact sm_congr hf _ (Nat.le_refl _)
theorem or_lt {a k : Nat} (ha : a < 256) (hk : k < 8) : a ||| 2 ^ k < 256 := by
  have h2 : 2 ^ k < 2 ^ 8 := Nat.pow_lt_pow_right (by decide) hk
  exact Nat.or_lt_two_pow (n := 8) ha h2
/-- one step down: behind copyRow and apply -/
theorem ex_down {σ μ κ : Mm} {dp k : Nat} {f : Nat → Nat} (hσ : dsk σ μ) (hd : dp < 8) (hT : TL σ 1 μ) (hf : ∀ j, j < cnt σ 1 10 → μ (11 + dp) j = f j)
    (h1 : off2 20 (11 + (dp + 1)) (va_up μ (11 + (dp + 1)) (fun a => if a < μ 7 4 then μ (11 + dp) a else μ (11 + (dp + 1)) a)) κ)
    (h2 : κ (11 + (dp + 1)) = apF ((va_up μ (11 + (dp + 1)) (fun a => if a < μ 7 4 then μ (11 + dp) a else μ (11 + (dp + 1)) a)) 7 4) ((va_up μ (11 + (dp + 1)) (fun a => if a < μ 7 4 then μ (11 + dp) a else μ (11 + (dp + 1)) a)) 9) ((va_up μ (11 + (dp + 1)) (fun a => if a < μ 7 4 then μ (11 + dp) a else μ (11 + (dp + 1)) a)) (22 + k) 0) ((va_up μ (11 + (dp + 1)) (fun a => if a < μ 7 4 then μ (11 + dp) a else μ (11 + (dp + 1)) a)) (22 + k) 2) ((va_up μ (11 + (dp + 1)) (fun a => if a < μ 7 4 then μ (11 + dp) a else μ (11 + (dp + 1)) a)) (22 + k) 1) ((va_up μ (11 + (dp + 1)) (fun a => if a < μ 7 4 then μ (11 + dp) a else μ (11 + (dp + 1)) a)) (11 + (dp + 1)))) :
    (∀ i, i ≠ 20 → i ≠ 11 + (dp + 1) → κ i = μ i) ∧ dsk σ κ ∧ TL σ 1 κ ∧ ∀ j, j < cnt σ 1 10 → κ (11 + (dp + 1)) j = apK σ 1 k f j := by
  have ho : ∀ i, i ≠ 20 → i ≠ 11 + (dp + 1) → κ i = μ i := fun i a b => by rw [h1 i a b, va_up_ne _ _ b]
  refine ⟨ho, fun i hi => by rw [ho i (by omega) (by omega)]; exact hσ i hi, ⟨by rw [ho 7 (by omega) (by omega)]; exact hT.1, fun j hj => by rw [ho 8 (by omega) (by omega), ho 9 (by omega) (by omega)]; exact hT.2 j hj⟩, fun j hj => ?_⟩
  rw [h2, va_up_ne _ _ (show 7 ≠ 11 + (dp + 1) by omega), va_up_ne _ _ (show 9 ≠ 11 + (dp + 1) by omega), va_up_ne _ _ (show 22 + k ≠ 11 + (dp + 1) by omega), va_up_self, hσ.c k, hT.1]
  exact apF_congr (fun j hj => (hT.2 j hj).2) (fun j hj => by rw [if_pos hj]; exact hf j hj) j hj
