/-! ===== what the law builds, in numbers ===== -/
/-- a desk with its articles and coupons, and nothing sold -/
def bOK (many c : Nat) (ν : Mm) : Prop := WD ν ∧ ν 0 5 = many ∧ ν 0 6 = c ∧ ν 0 7 = 0 ∧ ∀ i, many ≤ i → ν 4 i = 0
theorem bOK_0 : bOK 0 0 nu0 := ⟨nu0_WD, rfl, rfl, rfl, fun i _ => by simp [nu0]⟩
theorem WD.upD {ν : Mm} {j v : Nat} (h : WD ν) (hc : va_up (ν 0) j v 5 ≤ 10 ∧ va_up (ν 0) j v 6 ≤ 8 ∧ va_up (ν 0) j v 7 ≤ 12 ∧ va_up (ν 0) j v 8 ≤ 10000 ∧ va_up (ν 0) j v 9 ≤ 1000000) : WD (up2 ν 0 j v) := h.upC (cOK_d hc)
theorem bOK.art {ν : Mm} {a pr ca : Nat} (h : bOK a 0 ν) (ha : a < 10) (h1 : pr ≤ 10000) (h2 : ca ≤ 7) : bOK (a + 1) 0 (up2 (up2 (up2 ν 2 (ν 0 5) pr) 3 (ν 0 5) ca) 0 5 (ν 0 5 + 1)) := by
  obtain ⟨hW, e5, e6, e7, hz⟩ := h
  have w1 : WD (up2 ν 2 (ν 0 5) pr) := hW.upP lotB_1 h1
  have w2 : WD (up2 (up2 ν 2 (ν 0 5) pr) 3 (ν 0 5) ca) := w1.upK lotB_1 h2
  have e0 : up2 (up2 ν 2 (ν 0 5) pr) 3 (ν 0 5) ca 0 = ν 0 := by rw [up2_ne (by decide), up2_ne (by decide)]
  refine ⟨w2.upD ?_, ?_, ?_, ?_, fun i hi => ?_⟩
  · rw [e0]
    simp only [va_up_self, va_up_ne _ _ (show (6 : Nat) ≠ 5 by decide), va_up_ne _ _ (show (7 : Nat) ≠ 5 by decide), va_up_ne _ _ (show (8 : Nat) ≠ 5 by decide), va_up_ne _ _ (show (9 : Nat) ≠ 5 by decide)]
    have := hW.nc; have := hW.no; have := hW.fe; have := hW.li
    exact ⟨by omega, by omega, by omega, by omega, by omega⟩
  · rw [up2_at, e5]
  · rw [up2_ne2 (by decide), e0, e6]
  · rw [up2_ne2 (by decide), e0, e7]
  · rw [up2_ne (by decide), up2_ne (by decide), up2_ne (by decide)]
    exact hz i (by omega)
theorem bOK.put {ν : Mm} {a b c n : Nat} (h : bOK b c ν) (ha : a < b) (h1 : n ≤ 6) : bOK b c (up2 ν 4 a n) := by
  obtain ⟨hW, e5, e6, e7, hz⟩ := h
  refine ⟨hW.upN lotB_1 h1, ?_, ?_, ?_, fun i hi => ?_⟩
  · rw [up2_ne (by decide), e5]
  · rw [up2_ne (by decide), e6]
  · rw [up2_ne (by decide), e7]
  · rw [up2_ne2 (by omega)]; exact hz i hi
theorem bOK.ship {ν : Mm} {b c fe li : Nat} (h : bOK b c ν) (h1 : fe ≤ 10000) (h2 : li ≤ 1000000) : bOK b c (up2 (up2 ν 0 8 fe) 0 9 li) := by
  obtain ⟨hW, e5, e6, e7, hz⟩ := h
  have := hW.na; have := hW.nc; have := hW.no; have := hW.fe; have := hW.li
  have w1 : WD (up2 ν 0 8 fe) := hW.upD (by
    simp only [va_up_self, va_up_ne _ _ (show (5 : Nat) ≠ 8 by decide), va_up_ne _ _ (show (6 : Nat) ≠ 8 by decide), va_up_ne _ _ (show (7 : Nat) ≠ 8 by decide), va_up_ne _ _ (show (9 : Nat) ≠ 8 by decide)]
    exact ⟨by omega, by omega, by omega, by omega, by omega⟩)
  refine ⟨w1.upD ?_, ?_, ?_, ?_, fun i hi => ?_⟩
  · rw [up2_row]
    simp only [va_up_self, va_up_ne _ _ (show (5 : Nat) ≠ 9 by decide), va_up_ne _ _ (show (6 : Nat) ≠ 9 by decide), va_up_ne _ _ (show (7 : Nat) ≠ 9 by decide), va_up_ne _ _ (show (8 : Nat) ≠ 9 by decide), va_up_ne _ _ (show (5 : Nat) ≠ 8 by decide), va_up_ne _ _ (show (6 : Nat) ≠ 8 by decide), va_up_ne _ _ (show (7 : Nat) ≠ 8 by decide)]
    exact ⟨by omega, by omega, by omega, by omega, by omega⟩
  · rw [up2_ne2 (by decide), up2_ne2 (by decide), e5]
  · rw [up2_ne2 (by decide), up2_ne2 (by decide), e6]
  · rw [up2_ne2 (by decide), up2_ne2 (by decide), e7]
  · rw [up2_ne (by decide), up2_ne (by decide)]; exact hz i hi
theorem up2_row2 (ν : Mm) (i j k v w : Nat) : up2 (up2 ν i j v) i k w = va_up ν i (va_up (va_up (ν i) j v) k w) := by
  funext a
  by_cases e : a = i
  · subst e; rw [up2_row, up2_row, va_up_self]
  · rw [up2_ne e, up2_ne e, va_up_ne _ _ e]
theorem va_up2 (ν : Mm) (i : Nat) (r : Nat → Nat) (k w : Nat) : up2 (va_up ν i r) i k w = va_up ν i (va_up r k w) := by
  funext a
  by_cases e : a = i
  · subst e; rw [up2_row, va_up_self, va_up_self]
  · rw [up2_ne e, va_up_ne _ _ e, va_up_ne _ _ e]
theorem bOK.cou {ν : Mm} {b c kd v cs mi gr : Nat} (h : bOK b c ν) (hc : c < 8) (h1 : vk kd v) (h2 : cs ≤ 255) (h3 : mi ≤ 1000000) (h4 : gr ≤ 3) : bOK b (c + 1) (up2 (up2 (up2 (up2 (up2 (up2 (up2 ν (22 + ν 0 6) 0 kd) (22 + ν 0 6) 1 v) (22 + ν 0 6) 2 cs) (22 + ν 0 6) 3 mi) (22 + ν 0 6) 4 gr) (22 + ν 0 6) 5 9) 0 6 (ν 0 6 + 1)) := by
  obtain ⟨hW, e5, e6, e7, hz⟩ := h
  rw [e6, show up2 ν (22 + c) 0 kd = va_up ν (22 + c) (va_up (ν (22 + c)) 0 kd) from rfl, va_up2, va_up2, va_up2, va_up2, va_up2]
  have hv : kd ≤ 3 ∧ v ≤ 100000 ∧ (kd = 0 → v ≤ 100) := by unfold vk at h1; omega
  have w1 : WD (va_up ν (22 + c) (va_up (va_up (va_up (va_up (va_up (va_up (ν (22 + c)) 0 kd) 1 v) 2 cs) 3 mi) 4 gr) 5 9)) := hW.upC (cOK_k hc (by
    simp [va_up]
    exact ⟨hv.1, hv.2.1, hv.2.2, h2, h3, h4⟩))
  have ne0 : (0 : Nat) ≠ 22 + c := by omega
  have ne4 : (4 : Nat) ≠ 22 + c := by omega
  have := hW.na; have := hW.nc; have := hW.no; have := hW.fe; have := hW.li
  refine ⟨w1.upD ?_, ?_, ?_, ?_, fun i hi => ?_⟩
  · rw [va_up_ne _ _ ne0]
    simp only [va_up_self, va_up_ne _ _ (show (5 : Nat) ≠ 6 by decide), va_up_ne _ _ (show (7 : Nat) ≠ 6 by decide), va_up_ne _ _ (show (8 : Nat) ≠ 6 by decide), va_up_ne _ _ (show (9 : Nat) ≠ 6 by decide)]
    exact ⟨by omega, by omega, by omega, by omega, by omega⟩
  · rw [up2_ne2 (by decide), va_up_ne _ _ ne0, e5]
  · rw [up2_at]
  · rw [up2_ne2 (by decide), va_up_ne _ _ ne0, e7]
  · rw [up2_ne (by decide), va_up_ne _ _ ne4]; exact hz i hi
/-! the frame of build and of the law -/
theorem hasX.calling {b : Nat} : ∀ (U : State) (g : JFrame) (mk : MethodId) (a : Array Value), hasX b U → hasX b (U.calling g mk a) := fun U g mk a ⟨L, xs, h1, h2, h3⟩ => ⟨L, xs, h1, h2, va_X.moved (u := U) (U := U.calling g mk a) (Vm.Alike.refl U.vm) h3⟩
theorem hasX.go {b : Nat} {s : State} {G : dG} {H : Heap} {locs : List Loc} (h : hasX b s) (hb : b < G.2.2) (hS : pS G s.heap H locs) : ∀ U : State, U.heap = H → s.WarmedH U.vm → hasX b U := fun U hU hW => by
  obtain ⟨L, xs, h1, h2, h3⟩ := h
  subst hU
  have h4 : va_X b L xs s U.heap := h3.kept (hS.2.1 b h2 (by show ¬ G.2.2 ≤ b; omega))
  exact ⟨L, xs, h1, Nat.lt_of_lt_of_le h2 hS.1, va_X.moved hW.alike h4⟩
