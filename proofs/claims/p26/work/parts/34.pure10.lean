/-! ===== what is bought and given back, in numbers ===== -/
theorem sm_mono {f g : Nat → Nat} {n : Nat} (h : ∀ j, j < n → f j ≤ g j) : sm f n ≤ sm g n := by
  induction n with
  | zero => exact Nat.le_refl _
  | succ n ih =>
    have h1 := ih (fun j hj => h j (by omega))
    have h2 := h n (by omega)
    simp only [sm]; omega
theorem sm_const {f : Nat → Nat} {m v : Nat} (n : Nat) (h : ∀ j, m ≤ j → j < m + n → f j = v) : sm f (m + n) = sm f m + v * n := by
  induction n with
  | zero => rfl
  | succ n ih =>
    have h1 := ih (fun j a b => h j a (by omega))
    have h2 := h (m + n) (by omega) (by omega)
    show sm f (m + n) + f (m + n) = _
    rw [h1, h2, Nat.mul_succ]; omega
theorem bt_255 {c : Nat} (h : c ≤ 7) : bt 255 c = 1 := by
  have : ∀ c : Fin 8, bt 255 c.val = 1 := by decide +kernel
  exact this ⟨c, by omega⟩
theorem sm_f0 {ν : Mm} {L : Nat} (a : Nat) (h : ∀ i, i < a → ν (L + 2) i ≤ 7) : sm (fun j => ν (L + 1) (pcA ν L a j)) (cnt ν L a) = pin ν L 255 a := by
  induction a with
  | zero => rfl
  | succ a ih =>
    have h1 := ih (fun i hi => h i (by omega))
    rw [cnt_succ, pin_succ, if_pos (bt_255 (h a (by omega))), ← h1]
    rw [sm_const (v := ν (L + 1) a) (ν (L + 3) a) (fun j hj _ => by
      show ν (L + 1) (if j < cnt ν L a then pcA ν L a j else a) = _
      rw [if_neg (by omega)])]
    congr 1
    exact sm_congr (n := cnt ν L a) (fun j hj => by
      show ν (L + 1) (if j < cnt ν L a then pcA ν L a j else a) = _
      rw [if_pos hj]) _ (Nat.le_refl _)
theorem rsF_f0 {ν : Mm} {L st : Nat} (k j : Nat) : rsF ν L st k j ≤ f0L ν L j := by
  induction k with
  | zero => exact Nat.le_refl _
  | succ k ih =>
    rw [rsF_succ]
    split
    · exact Nat.le_trans (apF_le j) ih
    · exact ih
/-- goods are never dearer than the value -/
theorem gd_le_pin {ν : Mm} (hW : WD ν) {L : Nat} (hL : lotB L) (st : Nat) : gdF ν L st ≤ pin ν L 255 10 := by
  rw [gdF_eq, ← sm_f0 10 (fun i hi => (hW.1 L hL i hi).2.1)]
  exact sm_mono (fun j _ => rsF_f0 _ j)
/-! an empty lot -/
theorem cnt_zero {ν : Mm} {L a : Nat} (h : cnt ν L a = 0) : ∀ i, i < a → ν (L + 3) i = 0 := by
  induction a with
  | zero => intro i hi; omega
  | succ a ih =>
    rw [cnt_succ] at h
    intro i hi
    by_cases e : i = a
    · subst e; omega
    · exact ih (by omega) i (by omega)
theorem pin_zero {ν : Mm} {L cs a : Nat} (h : ∀ i, i < a → ν (L + 3) i = 0) : pin ν L cs a = 0 := by
  induction a with
  | zero => rfl
  | succ a ih =>
    rw [pin_succ, ih (fun i hi => h i (by omega)), h a (by omega)]
    split <;> rfl
theorem pin_cnt {ν : Mm} {L cs : Nat} (h : cnt ν L 10 = 0) : pin ν L cs 10 = 0 := pin_zero (cnt_zero h)
theorem srF_zero {ν : Mm} {q : Nat} (h : cnt ν (31 + 5 * q) 10 = 0) (c : Nat) : srF ν q c = 0 := by
  induction c with
  | zero => rfl
  | succ c ih =>
    simp only [srF]
    rw [if_neg (fun hh => by have := pin_cnt (cs := ν (22 + c) 2) h; have := hh.2.1; omega), ih]
theorem gd_zero {ν : Mm} {L st : Nat} (h : cnt ν L 10 = 0) : gdF ν L st = 0 := by
  rw [gdF_eq, h]; rfl
/-- the acting ones are no more than before -/
theorem srF_sub {ν : Mm} {q k : Nat} (c : Nat) (h : bt (srF ν q c) k = 1) : bt (ν (30 + 5 * q) 1) k = 1 := by
  induction c with
  | zero => rw [show bt (srF ν q 0) k = 0 from bt_zero (m := 0) Nat.zero_lt_one (Nat.zero_le _)] at h; omega
  | succ c ih =>
    simp only [srF] at h
    split at h
    · next hh =>
      have hl := srF_lt (ν := ν) (q := q) c
      rw [or_pow hl] at h
      rcases Nat.lt_trichotomy k c with e | e | e
      · rw [← bt_mod e, Nat.add_mod_right, Nat.mod_eq_of_lt hl] at h; exact ih h
      · subst e; exact hh.1
      · have h2 : srF ν q c + 2 ^ c < 2 ^ (c + 1) := by rw [Nat.pow_succ]; omega
        rw [bt_zero h2 (by omega)] at h; omega
    · exact ih h
/-! buy: the first order -/
theorem cnt_cong {ν μ : Mm} {K L : Nat} (a : Nat) (h : ∀ i, i < a → μ (L + 3) i = ν (K + 3) i) : cnt μ L a = cnt ν K a := by
  induction a with
  | zero => rfl
  | succ a ih => rw [cnt_succ, cnt_succ, ih (fun i hi => h i (by omega)), h a (by omega)]
theorem pin_cong {ν μ : Mm} {K L cs : Nat} (a : Nat) (h1 : ∀ i, i < a → μ (L + 1) i = ν (K + 1) i) (h2 : ∀ i, i < a → μ (L + 2) i = ν (K + 2) i) (h3 : ∀ i, i < a → μ (L + 3) i = ν (K + 3) i) : pin μ L cs a = pin ν K cs a := by
  induction a with
  | zero => rfl
  | succ a ih => rw [pin_succ, pin_succ, ih (fun i hi => h1 i (by omega)) (fun i hi => h2 i (by omega)) (fun i hi => h3 i (by omega)), h1 a (by omega), h2 a (by omega), h3 a (by omega)]
theorem cpLot_at {ν : Mm} {K L c i : Nat} (hK : K + 3 < L + 1) (h1 : 1 ≤ c) (h2 : c ≤ 3) (hi : i < 10) : cpLot ν K L (L + c) i = ν (K + c) i := by
  unfold cpLot cp10
  rcases (show c = 1 ∨ c = 2 ∨ c = 3 by omega) with rfl | rfl | rfl
  · rw [va_up_ne _ _ (show L + 1 ≠ L + 3 by omega), va_up_ne _ _ (show L + 1 ≠ L + 2 by omega), va_up_self, if_pos hi]
  · rw [va_up_ne _ _ (show L + 2 ≠ L + 3 by omega), va_up_self, if_pos hi, va_up_ne _ _ (show K + 2 ≠ L + 1 by omega)]
  · rw [va_up_self, if_pos hi, va_up_ne _ _ (show K + 3 ≠ L + 2 by omega), va_up_ne _ _ (show K + 3 ≠ L + 1 by omega)]
/-- what the desk is behind the first buy -/
def b1 (ν : Mm) (st : Nat) : Mm := up2 (up2 (up2 (up2 (cpLot ν 1 31) 30 1 st) 30 2 (feF ν st (gdF ν 1 st))) 30 3 (gdF ν 1 st)) 0 7 1
theorem buyM_0 {ν : Mm} {st : Nat} (h : ν 0 7 = 0) : buyM ν st = va_up (uuM (b1 ν st) st (ν 0 6)) 4 (fun a => if a < 10 then 0 else uuM (b1 ν st) st (ν 0 6) 4 a) := by
  unfold buyM
  simp only [h]
  rfl
theorem buy_off {ν : Mm} {st i : Nat} (h : ν 0 7 = 0) (hc : ν 0 6 ≤ 8) (hi : i ≠ 4) (hi2 : i < 22 ∨ 30 ≤ i) : buyM ν st i = b1 ν st i := by
  rw [buyM_0 h, va_up_ne _ _ hi]
  exact uuM_off _ _ _ _ (by omega)
theorem b1_WD {ν : Mm} {st : Nat} (hW : WD ν) (hs : st < 256) : WD (b1 ν st) := by
  have w1 : WD (cpLot ν 1 (31 + 5 * 0)) := hW.cp lotB_1 (lotB_o (k := 0) (by decide))
  have w2 := w1.upA (q := 0) (v := st) (by decide) hs
  have w3 := w2.upF (q := 0) (v := feF ν st (gdF ν 1 st)) (by decide) (feF_le hW _ _)
  have w4 := w3.upG (q := 0) (v := gdF ν 1 st) (by decide) (gdF_le hW lotB_1 _)
  refine WD.upD (j := 7) (v := 1) w4 ?_
  have := w4.na; have := w4.nc; have := w4.no; have := w4.fe; have := w4.li
  simp only [va_up_self, va_up_ne _ _ (show (5 : Nat) ≠ 7 by decide), va_up_ne _ _ (show (6 : Nat) ≠ 7 by decide), va_up_ne _ _ (show (8 : Nat) ≠ 7 by decide), va_up_ne _ _ (show (9 : Nat) ≠ 7 by decide)]
  exact ⟨by omega, by omega, by omega, by omega, by omega⟩
theorem buy_WD {ν : Mm} {st : Nat} (hW : WD ν) (h : ν 0 7 = 0) (hs : st < 256) : WD (buyM ν st) := by
  rw [buyM_0 h]
  exact (((b1_WD hW hs).uu hW.nc).clr lotB_1)
/-- an order 0 of a desk with one order -/
def oOK (many fee : Nat) (ν : Mm) : Prop := WD ν ∧ ν 0 5 = many ∧ ν 0 7 = 1 ∧ (∀ i, many ≤ i → i < 10 → ν 34 i = 0) ∧ ν 30 2 = fee ∧ (cnt ν 31 10 = 0 → ν 30 3 = 0 ∧ ν 30 1 = 0)
theorem buy_oOK {ν : Mm} {many c st : Nat} (hB : bOK many c ν) (hs : st < 256) (hne : cnt ν 1 10 ≠ 0) : oOK many (feF ν st (gdF ν 1 st)) (buyM ν st) ∧ buyM ν st 30 3 = gdF ν 1 st ∧ buyM ν st 30 1 = st ∧ cnt (buyM ν st) 31 10 = cnt ν 1 10 ∧ pin (buyM ν st) 31 255 10 = pin ν 1 255 10 := by
  obtain ⟨hW, e5, e6, e7, hz⟩ := hB
  have off := fun i (a : i ≠ 4) (b : i < 22 ∨ 30 ≤ i) => buy_off (st := st) e7 hW.nc a b
  have o30 : buyM ν st 30 = va_up (va_up (va_up (cpLot ν 1 31 30) 1 st) 2 (feF ν st (gdF ν 1 st))) 3 (gdF ν 1 st) := by
    rw [off 30 (by decide) (by omega)]
    unfold b1
    rw [up2_ne (by decide), up2_row, up2_row, up2_row]
  have o0 : buyM ν st 0 = va_up (ν 0) 7 1 := by
    rw [off 0 (by decide) (by omega)]
    unfold b1
    rw [up2_row, up2_ne (by decide), up2_ne (by decide), up2_ne (by decide), cpLot_ne (by decide) (by decide) (by decide)]
  have oL : ∀ c i, 1 ≤ c → c ≤ 3 → i < 10 → buyM ν st (31 + c) i = ν (1 + c) i := fun c i a b d => by
    rw [off (31 + c) (by omega) (by omega)]
    unfold b1
    rw [up2_ne (by omega), up2_ne (by omega), up2_ne (by omega), up2_ne (by omega), cpLot_at (by decide) a b d]
  have hcn : cnt (buyM ν st) 31 10 = cnt ν 1 10 := cnt_cong 10 (fun i hi => oL 3 i (by decide) (by decide) hi)
  refine ⟨⟨buy_WD hW e7 hs, ?_, ?_, fun i hi h10 => ?_, ?_, fun h0 => ?_⟩, ?_, ?_, hcn, pin_cong 10 (fun i hi => oL 1 i (by decide) (by decide) hi) (fun i hi => oL 2 i (by decide) (by decide) hi) (fun i hi => oL 3 i (by decide) (by decide) hi)⟩
  · rw [o0, va_up_ne _ _ (by decide), e5]
  · rw [o0, va_up_self]
  · rw [oL 3 i (by decide) (by decide) h10]; exact hz i hi
  · rw [o30, va_up_ne _ _ (by decide), va_up_self]
  · rw [hcn] at h0; exact absurd h0 hne
  · rw [o30, va_up_self]
  · rw [o30, va_up_ne _ _ (by decide), va_up_ne _ _ (by decide), va_up_self]
/-- a piece less -/
theorem cnt_dec {ν : Mm} {L a m : Nat} (h1 : 1 ≤ ν (L + 3) a) : cnt (up2 ν (L + 3) a (ν (L + 3) a - 1)) L m = if a < m then cnt ν L m - 1 else cnt ν L m := by
  have ha : a < m → 1 ≤ cnt ν L m := fun hm => by
    have := cnt_mono (ν := ν) (L := L) (show a + 1 ≤ m by omega)
    rw [cnt_succ] at this; omega
  induction m with
  | zero => rfl
  | succ m ih =>
    have ha' : a < m → 1 ≤ cnt ν L m := fun hm => by
      have := cnt_mono (ν := ν) (L := L) (show a + 1 ≤ m by omega)
      rw [cnt_succ] at this; omega
    rw [cnt_succ, cnt_succ, ih ha']
    by_cases e : a = m
    · subst e
      rw [if_neg (by omega), if_pos (by omega), up2_at]
      omega
    · rw [up2_ne2 (Ne.symm e)]
      by_cases e2 : a < m
      · have := ha' e2
        rw [if_pos e2, if_pos (by omega)]; omega
      · rw [if_neg e2, if_neg (by omega)]
theorem gb_oOK {ν : Mm} {many fee a : Nat} (hO : oOK many fee ν) (ha : a < many) (h1 : 1 ≤ ν 34 a) :
    oOK many fee (gbM ν 0 a 1) ∧ gbM ν 0 a 1 30 3 + gbR ν 0 a 1 = ν 30 3 ∧ cnt (gbM ν 0 a 1) 31 10 + 1 = cnt ν 31 10 ∧ (∀ k, bt (gbM ν 0 a 1 30 1) k = 1 → bt (ν 30 1) k = 1) := by
  obtain ⟨hW, e5, e7, hz, ef, hcz⟩ := hO
  have hm : many ≤ 10 := by have := hW.na; omega
  have w1 : WD (gb1 ν 0 a 1) := hW.upN (L := 31 + 5 * 0) (lotB_o (k := 0) (by decide)) (by have := hW.c6 (lotB_o (k := 0) (by decide)) a (by omega); omega)
  have hsr : srF (gb1 ν 0 a 1) 0 (ν 0 6) < 256 := Nat.lt_of_lt_of_le (srF_lt _) (pow8 hW.nc)
  have w2 : WD (gb2 ν 0 a 1) := w1.upA (q := 0) (by decide) hsr
  have hG : gbG ν 0 a 1 ≤ 600000 := gdF_le w2 (lotB_o (k := 0) (by decide)) _
  have w3 : WD (gbM ν 0 a 1) := by
    unfold gbM
    split
    · exact w2
    · exact w2.upG (q := 0) (by decide) hG
  have off2' : ∀ i, i ≠ 34 → i ≠ 30 → gbM ν 0 a 1 i = ν i := fun i a1 a2 => by
    unfold gbM gb2 gb1
    split
    · rw [up2_ne a2, up2_ne a1]
    · rw [up2_ne a2, up2_ne a2, up2_ne a1]
  have o34 : gbM ν 0 a 1 34 = va_up (ν 34) a (ν 34 a - 1) := by
    unfold gbM gb2 gb1
    split
    · rw [up2_ne (by decide), up2_row]
    · rw [up2_ne (by decide), up2_ne (by decide), up2_row]
  have c1 : cnt (gbM ν 0 a 1) 31 10 = cnt (gb1 ν 0 a 1) 31 10 := cnt_cong 10 (fun i hi => by
    show gbM ν 0 a 1 34 i = up2 ν 34 a (ν 34 a - 1) 34 i
    rw [o34, up2_row])
  have c2 : cnt (gb2 ν 0 a 1) 31 10 = cnt (gb1 ν 0 a 1) 31 10 := cnt_cong 10 (fun i hi => by
    show up2 (gb1 ν 0 a 1) 30 1 _ 34 i = _
    rw [up2_ne (by decide)])
  have c3 : cnt (gb1 ν 0 a 1) 31 10 = cnt ν 31 10 - 1 := by
    have := cnt_dec (ν := ν) (L := 31) (a := a) (m := 10) h1
    rw [if_pos (by omega)] at this
    exact this
  have c4 : 1 ≤ cnt ν 31 10 := by
    have := cnt_mono (ν := ν) (L := 31) (show a + 1 ≤ 10 by omega)
    rw [cnt_succ] at this
    have e : ν (31 + 3) a = ν 34 a := rfl
    omega
  have e1 : gbM ν 0 a 1 30 1 = srF (gb1 ν 0 a 1) 0 (ν 0 6) := by
    unfold gbM gb2
    split
    · exact up2_at _ _ _ _
    · rw [up2_ne2 (by decide)]; exact up2_at _ _ _ _
  have e2 : gbM ν 0 a 1 30 2 = ν 30 2 := by
    unfold gbM gb2 gb1
    split
    · rw [up2_ne2 (by decide), up2_ne (by decide)]
    · rw [up2_ne2 (by decide), up2_ne2 (by decide), up2_ne (by decide)]
  have e3 : gbM ν 0 a 1 30 3 = if ν 30 3 ≤ gbG ν 0 a 1 then ν 30 3 else gbG ν 0 a 1 := by
    show (if ν 30 3 ≤ gbG ν 0 a 1 then gb2 ν 0 a 1 else up2 (gb2 ν 0 a 1) 30 3 (gbG ν 0 a 1)) 30 3 = _
    split
    · unfold gb2 gb1; rw [up2_ne2 (by decide), up2_ne (by decide)]
    · exact up2_at _ _ _ _
  have e4 : gbR ν 0 a 1 = if ν 30 3 ≤ gbG ν 0 a 1 then 0 else ν 30 3 - gbG ν 0 a 1 := rfl
  refine ⟨⟨w3, ?_, ?_, fun i hi h10 => ?_, by rw [e2, ef], fun h0 => ?_⟩, ?_, by rw [c1, c3]; omega, fun k hk => ?_⟩
  · rw [off2' 0 (by decide) (by decide), e5]
  · rw [off2' 0 (by decide) (by decide), e7]
  · rw [o34, va_up_ne _ _ (by omega)]; exact hz i hi h10
  · have z1 : cnt (gb1 ν 0 a 1) (31 + 5 * 0) 10 = 0 := by rw [c1] at h0; exact h0
    have z2 : gbG ν 0 a 1 = 0 := gd_zero (by rw [c1] at h0; show cnt (gb2 ν 0 a 1) 31 10 = 0; rw [c2]; exact h0)
    rw [e1, srF_zero z1, e3, z2]
    refine ⟨?_, rfl⟩
    split <;> omega
  · rw [e3, e4]
    split <;> omega
  · rw [e1] at hk
    have := srF_sub _ hk
    have e : gb1 ν 0 a 1 (30 + 5 * 0) = ν 30 := up2_ne (by decide)
    rw [e] at this
    exact this
/-- some article of the order has a piece -/
theorem cnt_some {ν : Mm} {many : Nat} (hz : ∀ i, many ≤ i → i < 10 → ν 34 i = 0) (h : 0 < cnt ν 31 10) : ∃ i, i < many ∧ 1 ≤ ν 34 i := by
  refine Classical.byContradiction fun hn => ?_
  have : cnt ν 31 10 = 0 := by
    have h0 : ∀ i, i < 10 → ν (31 + 3) i = 0 := fun i hi => by
      by_cases e : many ≤ i
      · exact hz i e hi
      · have : ¬ 1 ≤ ν 34 i := fun q => hn ⟨i, by omega, q⟩
        have e : ν (31 + 3) i = ν 34 i := rfl
        omega
    have key : ∀ m, m ≤ 10 → cnt ν 31 m = 0 := fun m => by
      induction m with
      | zero => intro _; rfl
      | succ m ih => intro hm; rw [cnt_succ, ih (by omega), h0 m (by omega)]
    exact key 10 (Nat.le_refl _)
  omega
/-- no bit of x stands outside y -/
theorem mask0 {x y : Nat} (hs : ∀ k, bt x k = 1 → bt y k = 1) : nI x &&& (nI y ^^^ (-1)) = 0 := by
  apply Int32.toBitVec_inj.mp
  rw [Int32.toBitVec_and, Int32.toBitVec_xor]
  show BitVec.ofNat 32 x &&& (BitVec.ofNat 32 y ^^^ 4294967295#32) = 0#32
  apply BitVec.eq_of_getLsbD_eq
  intro i hi
  have h1 : (4294967295#32).getLsbD i = true := by
    have : ∀ i : Fin 32, (4294967295#32).getLsbD i.val = true := by decide +kernel
    exact this ⟨i, hi⟩
  rw [BitVec.getLsbD_and, BitVec.getLsbD_xor, h1, BitVec.getLsbD_ofNat, BitVec.getLsbD_ofNat]
  have h2 := hs i
  rw [bt_tb, bt_tb] at h2
  simp only [BitVec.getLsbD_zero]
  cases hx : x.testBit i
  · simp
  · simp [h2 hx]
