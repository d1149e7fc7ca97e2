/-! ===== rows that agree on the first n pieces; what transports along the desk's part; the search, in numbers ===== -/
theorem ms_congr {ct ct' f f' : Nat → Nat} {cs n : Nat} (hc : ∀ j, j < n → ct j = ct' j) (hf : ∀ j, j < n → f j = f' j) (i : Nat) (hi : i ≤ n) : ms ct cs f i = ms ct' cs f' i := by
  induction i with
  | zero => rfl
  | succ i ih => simp only [ms, ih (by omega), hc i (by omega), hf i (by omega)]
theorem us_congr {sh ct ct' f f' : Nat → Nat} {cs n : Nat} (hc : ∀ j, j < n → ct j = ct' j) (hf : ∀ j, j < n → f j = f' j) (i : Nat) (hi : i ≤ n) : us sh ct cs f i = us sh ct' cs f' i := by
  induction i with
  | zero => rfl
  | succ i ih => simp only [us, ih (by omega), hc i (by omega), hf i (by omega)]
theorem sm_congr {f f' : Nat → Nat} {n : Nat} (hf : ∀ j, j < n → f j = f' j) (i : Nat) (hi : i ≤ n) : sm f i = sm f' i := by
  induction i with
  | zero => rfl
  | succ i ih => simp only [sm, ih (by omega), hf i (by omega)]
theorem shF_congr {sh ct ct' f f' : Nat → Nat} {cs n : Nat} (hc : ∀ j, j < n → ct j = ct' j) (hf : ∀ j, j < n → f j = f' j) : ∀ j, j < n → shF sh n ct cs f j = shF sh n ct' cs f' j := by
  intro j hj
  simp only [shF, hc j hj, hf j hj]
theorem onS_congr {ct ct' : Nat → Nat} {cs n : Nat} {x x' : Nat × (Nat → Nat)} (hc : ∀ j, j < n → ct j = ct' j) (h1 : x.1 = x'.1) (h2 : ∀ j, j < n → x.2 j = x'.2 j) (i : Nat) (hi : i ≤ n) : (onS ct cs i x).1 = (onS ct' cs i x').1 ∧ ∀ j, j < n → (onS ct cs i x).2 j = (onS ct' cs i x').2 j := by
  induction i with
  | zero => exact ⟨h1, h2⟩
  | succ i ih =>
    obtain ⟨e1, e2⟩ := ih (by omega)
    simp only [onS, e1, e2 i (by omega), hc i (by omega)]
    split
    · refine ⟨rfl, fun j hj => ?_⟩
      by_cases e : j = i
      · subst e; simp [va_up]
      · simp only [va_up, e, if_false]; exact e2 j hj
    · exact ⟨e1, e2⟩
theorem insP_congr {f f' g : Nat → Nat} {x n r : Nat} (hf : ∀ j, j < n → f j = f' j) (hg : ∀ j, j < r → g j < n) : insP f g x r = insP f' g x r := by
  induction r with
  | zero => rfl
  | succ r ih => simp only [insP, ih (fun j hj => hg j (by omega)), hf _ (hg r (by omega))]
theorem rkS_congr {ct ct' f f' : Nat → Nat} {cs n : Nat} (hc : ∀ j, j < n → ct j = ct' j) (hf : ∀ j, j < n → f j = f' j) (i : Nat) (hi : i ≤ n) : rkS ct cs f i = rkS ct' cs f' i := by
  induction i with
  | zero => rfl
  | succ i ih =>
    have e := ih (by omega)
    have e3 : insP f (rkS ct cs f i).2 (f i) (rkS ct cs f i).1 = insP f' (rkS ct' cs f' i).2 (f' i) (rkS ct' cs f' i).1 := by
      rw [insP_congr hf (fun j hj => by have := rkS_lt ct cs f i j hj; omega), e, hf i (by omega)]
    rw [e] at e3
    simp only [rkS, hc i (by omega), e, e3]
theorem tbS_congr {v n r : Nat} {g : Nat → Nat} {x x' : Nat × (Nat → Nat)} (hg : ∀ j, j < r → g j < n) (h1 : x.1 = x'.1) (h2 : ∀ j, j < n → x.2 j = x'.2 j) : (tbS v g r x).1 = (tbS v g r x').1 ∧ ∀ j, j < n → (tbS v g r x).2 j = (tbS v g r x').2 j := by
  induction r with
  | zero => exact ⟨h1, h2⟩
  | succ r ih =>
    obtain ⟨e1, e2⟩ := ih (fun j hj => hg j (by omega))
    simp only [tbS, e1]
    split
    · refine ⟨rfl, fun j hj => ?_⟩
      by_cases e : j = g r
      · subst e; simp [va_up]
      · simp only [va_up, e, if_false]; exact e2 j hj
    · exact ⟨rfl, e2⟩
theorem apF_congr {ct ct' f f' : Nat → Nat} {kd cs v n : Nat} (hc : ∀ j, j < n → ct j = ct' j) (hf : ∀ j, j < n → f j = f' j) : ∀ j, j < n → apF n ct kd cs v f j = apF n ct' kd cs v f' j := by
  intro j hj
  unfold apF
  split
  · exact shF_congr hc hf j hj
  split
  · unfold taF
    have e := ms_congr (cs := cs) hc hf n (Nat.le_refl _)
    rw [e]
    split
    · exact hf j hj
    · have e2 := us_congr (sh := fun x => x * min (ms ct' cs f' n) v / ms ct' cs f' n) (cs := cs) hc hf n (Nat.le_refl _)
      rw [e2]
      exact (onS_congr (x := (min (ms ct' cs f' n) v - us (fun x => x * min (ms ct' cs f' n) v / ms ct' cs f' n) ct' cs f' n, shF (fun x => x * min (ms ct' cs f' n) v / ms ct' cs f' n) n ct cs f)) (x' := (min (ms ct' cs f' n) v - us (fun x => x * min (ms ct' cs f' n) v / ms ct' cs f' n) ct' cs f' n, shF (fun x => x * min (ms ct' cs f' n) v / ms ct' cs f' n) n ct' cs f')) hc rfl (fun j hj => shF_congr (sh := (fun x => x * min (ms ct' cs f' n) v / ms ct' cs f' n)) hc hf j hj) n (Nat.le_refl _)).2 j hj
  split
  · unfold tbF
    rw [rkS_congr hc hf n (Nat.le_refl _)]
    exact (tbS_congr (x := (0, f)) (x' := (0, f')) (fun j hj => rkS_lt ct' cs f' n j hj) rfl hf).2 j hj
  · exact hf j hj
theorem shF_le {sh ct : Nat → Nat} {cs n : Nat} {f : Nat → Nat} (j : Nat) : shF sh n ct cs f j ≤ f j := by
  unfold shF; split <;> omega
theorem apF_le {ct f : Nat → Nat} {kd cs v n : Nat} (j : Nat) : apF n ct kd cs v f j ≤ f j := by
  unfold apF
  split
  · exact shF_le j
  split
  · unfold taF
    split
    · exact Nat.le_refl _
    · refine Nat.le_trans ((onS_le n).2 j) ?_
      exact shF_le (sh := fun x => x * min (ms ct cs f n) v / ms ct cs f n) j
  split
  · exact tbS_le _ j
  · exact Nat.le_refl _
/-! along the desk's part -/
theorem gf_eq (ν : Mm) (k st : Nat) : gf ν k st = (decide (ν (22 + k) 4 = 0) || grF ν st (ν (22 + k) 4) (ν 0 6)) := rfl
theorem feF_eq (ν : Mm) (st g : Nat) : feF ν st g = if ν 0 9 ≤ g ∨ cnt ν 1 10 = 0 ∨ frF ν st (ν 0 6) = true then 0 else ν 0 8 := rfl
theorem al_eq (ν : Mm) (st : Nat) : al ν st = alF ν st (ν 0 6) := rfl
theorem pcA_succ (ν : Mm) (L a j : Nat) : pcA ν L (a + 1) j = if j < cnt ν L a then pcA ν L a j else a := rfl
theorem grF_succ (ν : Mm) (st g j : Nat) : grF ν st g (j + 1) = (grF ν st g j && !(decide (bt st j = 1) && decide (ν (22 + j) 4 = g))) := rfl
theorem frF_succ (ν : Mm) (st k : Nat) : frF ν st (k + 1) = (frF ν st k || (decide (bt st k = 1) && decide (ν (22 + k) 0 = 3))) := rfl
theorem ubF_succ (ν : Mm) (k : Nat) : ubF ν (k + 1) = if usab ν k then ubF ν k ||| 2 ^ k else ubF ν k := rfl
theorem alF_succ (ν : Mm) (st k : Nat) : alF ν st (k + 1) = (alF ν st k && (!decide (bt st k = 1) || (decide (usab ν k) && gf ν k (st &&& (2 ^ k - 1))))) := rfl
theorem dsk.pcA {ν μ : Mm} (h : dsk ν μ) {L : Nat} (hL : lotB L) (a : Nat) : pcA μ L a = pcA ν L a := by
  induction a with
  | zero => rfl
  | succ a ih =>
    funext j
    rw [pcA_succ, pcA_succ, h.cnt hL, ih]
theorem dsk.grF {ν μ : Mm} (h : dsk ν μ) (st g n : Nat) : grF μ st g n = grF ν st g n := by
  induction n with
  | zero => rfl
  | succ n ih => rw [grF_succ, grF_succ, ih, h.c]
theorem dsk.gf {ν μ : Mm} (h : dsk ν μ) (k st : Nat) : gf μ k st = gf ν k st := by
  rw [gf_eq, gf_eq, h.c, h.d, h.grF]
theorem dsk.frF {ν μ : Mm} (h : dsk ν μ) (st n : Nat) : frF μ st n = frF ν st n := by
  induction n with
  | zero => rfl
  | succ n ih => rw [frF_succ, frF_succ, ih, h.c]
theorem dsk.feF {ν μ : Mm} (h : dsk ν μ) (st g : Nat) : feF μ st g = feF ν st g := by
  rw [feF_eq, feF_eq, h.d, h.cnt lotB_1, h.frF]
theorem usab_eq (ν : Mm) (k : Nat) : usab ν k = (0 < ν (22 + k) 5 ∧ 0 < pin ν 1 (ν (22 + k) 2) 10 ∧ ν (22 + k) 3 ≤ pin ν 1 (ν (22 + k) 2) 10) := rfl
theorem dsk.usab {ν μ : Mm} (h : dsk ν μ) (k : Nat) : usab μ k = usab ν k := by
  rw [usab_eq, usab_eq, h.c, h.pin lotB_1]
theorem dsk.ubF {ν μ : Mm} (h : dsk ν μ) (n : Nat) : ubF μ n = ubF ν n := by
  induction n with
  | zero => rfl
  | succ n ih =>
    have e := h.usab n
    simp only [ubF_succ, ih, e]
theorem dsk.alF {ν μ : Mm} (h : dsk ν μ) (st n : Nat) : alF μ st n = alF ν st n := by
  induction n with
  | zero => rfl
  | succ n ih =>
    have e := h.usab n
    have e2 := h.gf n (st &&& (2 ^ n - 1))
    simp only [alF_succ, ih, e, e2]
theorem dsk.al {ν μ : Mm} (h : dsk ν μ) (st : Nat) : al μ st = al ν st := by
  rw [al_eq, al_eq, h.d, h.alF]
/-! a lot with a set of coupons -/
def ctL (ν : Mm) (L : Nat) : Nat → Nat := fun j => ν (L + 2) (pcA ν L 10 j)
def f0L (ν : Mm) (L : Nat) : Nat → Nat := fun j => ν (L + 1) (pcA ν L 10 j)
def apK (ν : Mm) (L k : Nat) (f : Nat → Nat) : Nat → Nat := apF (cnt ν L 10) (ctL ν L) (ν (22 + k) 0) (ν (22 + k) 2) (ν (22 + k) 1) f
def rsF (ν : Mm) (L st : Nat) : Nat → Nat → Nat
  | 0 => f0L ν L
  | k + 1 => if bt st k = 1 then apK ν L k (rsF ν L st k) else rsF ν L st k
def gdF (ν : Mm) (L st : Nat) : Nat := sm (rsF ν L st (ν 0 6)) (cnt ν L 10)
/-- the lot L lies on the tray -/
def TL (ν : Mm) (L : Nat) (μ : Mm) : Prop := μ 7 4 = cnt ν L 10 ∧ ∀ j, j < cnt ν L 10 → μ 8 j = pcA ν L 10 j ∧ μ 9 j = ctL ν L j
theorem f0_le {ν : Mm} (hW : WD ν) {L : Nat} (hL : lotB L) (j : Nat) : f0L ν L j ≤ 10000 := hW.c10 hL _ (pcA_lt ν L 10 (by decide) j)
theorem ct_lt {ν : Mm} (hW : WD ν) {L : Nat} (hL : lotB L) (j : Nat) : ctL ν L j < 32 := hW.cC hL _ (pcA_lt ν L 10 (by decide) j)
theorem rsF_le {ν : Mm} (hW : WD ν) {L : Nat} (hL : lotB L) (st k j : Nat) : rsF ν L st k j ≤ 10000 := by
  induction k with
  | zero => exact f0_le hW hL j
  | succ k ih =>
    simp only [rsF]
    split
    · exact Nat.le_trans (apF_le j) ih
    · exact ih
theorem gdF_le {ν : Mm} (hW : WD ν) {L : Nat} (hL : lotB L) (st : Nat) : gdF ν L st ≤ 600000 := by
  have h1 : gdF ν L st ≤ cnt ν L 10 * 10000 := sm_le (fun j _ => rsF_le hW hL st _ j)
  have h2 := hW.n60 hL
  omega
theorem feF_le {ν : Mm} (hW : WD ν) (st g : Nat) : feF ν st g ≤ 10000 := by
  unfold feF
  split
  · exact Nat.zero_le _
  · exact hW.fe
theorem apK_eq (ν : Mm) (L k : Nat) (f : Nat → Nat) : apK ν L k f = apF (cnt ν L 10) (ctL ν L) (ν (22 + k) 0) (ν (22 + k) 2) (ν (22 + k) 1) f := rfl
theorem rsF_succ (ν : Mm) (L st k : Nat) : rsF ν L st (k + 1) = if bt st k = 1 then apK ν L k (rsF ν L st k) else rsF ν L st k := rfl
theorem gdF_eq (ν : Mm) (L st : Nat) : gdF ν L st = sm (rsF ν L st (ν 0 6)) (cnt ν L 10) := rfl
theorem dsk.ctL {ν μ : Mm} (h : dsk ν μ) {L : Nat} (hL : lotB L) : ctL μ L = ctL ν L := by
  funext j
  show μ (L + 2) (_ : Nat) = ν (L + 2) _
  rw [h.l hL (by decide), h.pcA hL]
theorem dsk.f0L {ν μ : Mm} (h : dsk ν μ) {L : Nat} (hL : lotB L) : f0L μ L = f0L ν L := by
  funext j
  show μ (L + 1) (_ : Nat) = ν (L + 1) _
  rw [h.l hL (by decide), h.pcA hL]
theorem dsk.apK {ν μ : Mm} (h : dsk ν μ) {L : Nat} (hL : lotB L) (k : Nat) (f : Nat → Nat) : apK μ L k f = apK ν L k f := by
  rw [apK_eq, apK_eq, h.c, h.cnt hL, h.ctL hL]
theorem dsk.rsF {ν μ : Mm} (h : dsk ν μ) {L : Nat} (hL : lotB L) (st k : Nat) : rsF μ L st k = rsF ν L st k := by
  induction k with
  | zero => exact h.f0L hL
  | succ k ih => rw [rsF_succ, rsF_succ, ih, h.apK hL]
theorem dsk.gdF {ν μ : Mm} (h : dsk ν μ) {L : Nat} (hL : lotB L) (st : Nat) : gdF μ L st = gdF ν L st := by
  rw [gdF_eq, gdF_eq, h.d, h.cnt hL, h.rsF hL]
