/-! ===== buy, in numbers ===== -/
theorem cpLot_ne {ν : Mm} {K L i : Nat} (h1 : i ≠ L + 1) (h2 : i ≠ L + 2) (h3 : i ≠ L + 3) : cpLot ν K L i = ν i := by
  unfold cpLot cp10
  rw [va_up_ne _ _ h3, va_up_ne _ _ h2, va_up_ne _ _ h1]
theorem alF_all {ν : Mm} {st j n : Nat} (h : alF ν st n = true) (hj : j < n) (hb : bt st j = 1) : usab ν j ∧ gf ν j (st &&& (2 ^ j - 1)) = true := by
  induction n with
  | zero => omega
  | succ n ih =>
    rw [alF_succ, Bool.and_eq_true] at h
    by_cases e : j = n
    · subst e
      have h2 := h.2
      rw [decide_eq_true hb] at h2
      simp only [Bool.not_true, Bool.false_or, Bool.and_eq_true] at h2
      exact ⟨of_decide_eq_true h2.1, h2.2⟩
    · exact ih h.1 (by omega)
theorem al_usab {ν : Mm} {st j : Nat} (h : al ν st = true) (hj : j < ν 0 6) (hb : bt st j = 1) : usab ν j := (alF_all h hj hb).1
theorem buy_dsk {ν μ : Mm} {st : Nat} (hq : ν 0 7 < 12) (h : dsk ν μ) : dsk (buyM ν st) (va_up (uuM (up2 (up2 (up2 (up2 (cpLot μ 1 (31 + 5 * ν 0 7)) (30 + 5 * ν 0 7) 1 st) (30 + 5 * ν 0 7) 2 (feF μ st (gdF ν 1 st))) (30 + 5 * ν 0 7) 3 (gdF ν 1 st)) 0 7 (ν 0 7 + 1)) st (up2 (up2 (up2 (up2 (cpLot μ 1 (31 + 5 * ν 0 7)) (30 + 5 * ν 0 7) 1 st) (30 + 5 * ν 0 7) 2 (feF μ st (gdF ν 1 st))) (30 + 5 * ν 0 7) 3 (gdF ν 1 st)) 0 7 (ν 0 7 + 1) 0 6)) (1 + 3) (fun a => if a < 10 then 0 else uuM (up2 (up2 (up2 (up2 (cpLot μ 1 (31 + 5 * ν 0 7)) (30 + 5 * ν 0 7) 1 st) (30 + 5 * ν 0 7) 2 (feF μ st (gdF ν 1 st))) (30 + 5 * ν 0 7) 3 (gdF ν 1 st)) 0 7 (ν 0 7 + 1)) st (up2 (up2 (up2 (up2 (cpLot μ 1 (31 + 5 * ν 0 7)) (30 + 5 * ν 0 7) 1 st) (30 + 5 * ν 0 7) 2 (feF μ st (gdF ν 1 st))) (30 + 5 * ν 0 7) 3 (gdF ν 1 st)) 0 7 (ν 0 7 + 1) 0 6) (1 + 3) a)) := by
  have e06 : up2 (up2 (up2 (up2 (cpLot μ 1 (31 + 5 * ν 0 7)) (30 + 5 * ν 0 7) 1 st) (30 + 5 * ν 0 7) 2 (feF μ st (gdF ν 1 st))) (30 + 5 * ν 0 7) 3 (gdF ν 1 st)) 0 7 (ν 0 7 + 1) 0 6 = ν 0 6 := by
    rw [up2_ne2 (by decide), up2_ne (by omega), up2_ne (by omega), up2_ne (by omega), cpLot_ne (by omega) (by omega) (by omega), h.d]
  rw [e06, h.feF]
  unfold buyM
  have h1 := (((((h.cp lotB_1 (lotB_o hq)).up (30 + 5 * ν 0 7) 1 st).up (30 + 5 * ν 0 7) 2 (feF ν st (gdF ν 1 st))).up (30 + 5 * ν 0 7) 3 (gdF ν 1 st)).up 0 7 (ν 0 7 + 1)).uu st (ν 0 6)
  exact h1.upR 4 (fun _ => by
    funext a
    show (if a < 10 then 0 else _) = (if a < 10 then 0 else _)
    rw [h1 (1 + 3) (by decide)])
