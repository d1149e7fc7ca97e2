/-! ===== the desk's memory: 90 cells at one base, in the order of their making; every int that is held is a number of Nat ===== -/
abbrev dkCl : List vw_C := [(RX0, TX0, 6), (RX1, TX1, 3), (RX2, TX2, 4), (RX3, TX3, 5), (RX4, TX4, 5), (RX5, TX5, 10)]
/-- the ids of classes, the layout; the ids of int[], Coupon[], Order[], int[][]; the base -/
abbrev dG : Type := va_G × (ClassId × ClassId × ClassId × ClassId) × Nat
def ra (G : dG) (i : Nat) : Nat := G.2.2 + i
/-- what the cells hold: cell, place -/
abbrev Mm : Type := Nat → Nat → Nat
def aI (G : dG) (n : Nat) (r : Nat → Nat) : va_E := .inl (G.2.1.1, n, .inl (fun j => nI (r j)))
def aR (c : ClassId) (n : Nat) (f : Nat → Nat) : va_E := .inl (c, n, .inr (.inr (.inr (.inr (fun j => some (f j))))))
/-- 0 the desk; 1 the basket (2 prices, 3 categories, 4 counts); 5 coupons, 6 orders; 7 the tray (8 articles, 9 categories, 10 rests (11 to 19 the rows), 20 ranking); 21 the search; 22 to 29 the coupons; 30 + 5 k an order, its lot behind it (and its three rows) -/
def dE (G : dG) (i : Nat) (r : Nat → Nat) : va_E :=
  if i = 0 then .inr (5, [.ref (ra G 1), .ref (ra G 5), .ref (ra G 6), .ref (ra G 7), .ref (ra G 21), .int (nI (r 5)), .int (nI (r 6)), .int (nI (r 7)), .int (nI (r 8)), .int (nI (r 9))])
  else if i = 1 then .inr (1, [.ref (ra G 2), .ref (ra G 3), .ref (ra G 4)])
  else if i < 5 then aI G 10 r
  else if i = 5 then aR G.2.1.2.1 8 (fun j => ra G (22 + j))
  else if i = 6 then aR G.2.1.2.2.1 12 (fun j => ra G (30 + 5 * j))
  else if i = 7 then .inr (4, [.ref (ra G 8), .ref (ra G 9), .ref (ra G 10), .ref (ra G 20), .int (nI (r 4))])
  else if i < 10 then aI G 60 r
  else if i = 10 then aR G.2.1.2.2.2 9 (fun j => ra G (11 + j))
  else if i < 21 then aI G 60 r
  else if i = 21 then .inr (3, [.int (nI (r 0)), .int (nI (r 1)), .int (nI (r 2)), .int (nI (r 3)), .int (nI (r 4))])
  else if i < 30 then .inr (0, [.int (nI (r 0)), .int (nI (r 1)), .int (nI (r 2)), .int (nI (r 3)), .int (nI (r 4)), .int (nI (r 5))])
  else if (i - 30) % 5 = 0 then .inr (2, [.ref (ra G (i + 1)), .int (nI (r 1)), .int (nI (r 2)), .int (nI (r 3))])
  else if (i - 30) % 5 = 1 then .inr (1, [.ref (ra G (i + 1)), .ref (ra G (i + 2)), .ref (ra G (i + 3))])
  else aI G 10 r
/-- a lot's cell -/
def lotB (L : Nat) : Prop := L = 1 ∨ ∃ k, k < 12 ∧ L = 31 + 5 * k
theorem lotB.lt {L : Nat} (h : lotB L) : L + 3 < 90 := by
  rcases h with rfl | ⟨k, hk, rfl⟩ <;> omega
theorem lotB_1 : lotB 1 := Or.inl rfl
theorem lotB_o {k : Nat} (h : k < 12) : lotB (31 + 5 * k) := Or.inr ⟨k, h, rfl⟩
theorem dE_desk (G : dG) (r : Nat → Nat) : dE G 0 r = .inr (5, [.ref (ra G 1), .ref (ra G 5), .ref (ra G 6), .ref (ra G 7), .ref (ra G 21), .int (nI (r 5)), .int (nI (r 6)), .int (nI (r 7)), .int (nI (r 8)), .int (nI (r 9))]) := rfl
theorem dE_lot {L : Nat} (h : lotB L) (G : dG) (r : Nat → Nat) : dE G L r = .inr (1, [.ref (ra G (L + 1)), .ref (ra G (L + 2)), .ref (ra G (L + 3))]) := by
  rcases h with rfl | ⟨k, hk, rfl⟩
  · rfl
  · unfold dE
    rw [if_neg (by omega), if_neg (by omega), if_neg (by omega), if_neg (by omega), if_neg (by omega), if_neg (by omega), if_neg (by omega), if_neg (by omega), if_neg (by omega), if_neg (by omega), if_neg (by omega), if_neg (by omega), if_pos (by omega)]
theorem dE_lotA {L c : Nat} (h : lotB L) (h1 : 1 ≤ c) (h2 : c ≤ 3) (G : dG) (r : Nat → Nat) : dE G (L + c) r = aI G 10 r := by
  rcases h with rfl | ⟨k, hk, rfl⟩
  · unfold dE
    rw [if_neg (by omega), if_neg (by omega), if_pos (by omega)]
  · unfold dE
    rw [if_neg (by omega), if_neg (by omega), if_neg (by omega), if_neg (by omega), if_neg (by omega), if_neg (by omega), if_neg (by omega), if_neg (by omega), if_neg (by omega), if_neg (by omega), if_neg (by omega), if_neg (by omega), if_neg (by omega)]
theorem dE_coupons (G : dG) (r : Nat → Nat) : dE G 5 r = aR G.2.1.2.1 8 (fun j => ra G (22 + j)) := rfl
theorem dE_orders (G : dG) (r : Nat → Nat) : dE G 6 r = aR G.2.1.2.2.1 12 (fun j => ra G (30 + 5 * j)) := rfl
theorem dE_tray (G : dG) (r : Nat → Nat) : dE G 7 r = .inr (4, [.ref (ra G 8), .ref (ra G 9), .ref (ra G 10), .ref (ra G 20), .int (nI (r 4))]) := rfl
theorem dE_tA (G : dG) (r : Nat → Nat) : dE G 8 r = aI G 60 r := rfl
theorem dE_tC (G : dG) (r : Nat → Nat) : dE G 9 r = aI G 60 r := rfl
theorem dE_tR (G : dG) (r : Nat → Nat) : dE G 10 r = aR G.2.1.2.2.2 9 (fun j => ra G (11 + j)) := rfl
theorem dE_tK (G : dG) (r : Nat → Nat) : dE G 20 r = aI G 60 r := rfl
theorem dE_row {q : Nat} (h : q < 9) (G : dG) (r : Nat → Nat) : dE G (11 + q) r = aI G 60 r := by
  unfold dE
  rw [if_neg (by omega), if_neg (by omega), if_neg (by omega), if_neg (by omega), if_neg (by omega), if_neg (by omega), if_neg (by omega), if_neg (by omega), if_pos (by omega)]
theorem dE_search (G : dG) (r : Nat → Nat) : dE G 21 r = .inr (3, [.int (nI (r 0)), .int (nI (r 1)), .int (nI (r 2)), .int (nI (r 3)), .int (nI (r 4))]) := rfl
theorem dE_cou {k : Nat} (h : k < 8) (G : dG) (r : Nat → Nat) : dE G (22 + k) r = .inr (0, [.int (nI (r 0)), .int (nI (r 1)), .int (nI (r 2)), .int (nI (r 3)), .int (nI (r 4)), .int (nI (r 5))]) := by
  unfold dE
  rw [if_neg (by omega), if_neg (by omega), if_neg (by omega), if_neg (by omega), if_neg (by omega), if_neg (by omega), if_neg (by omega), if_neg (by omega), if_neg (by omega), if_neg (by omega), if_pos (by omega)]
theorem dE_ord {k : Nat} (h : k < 12) (G : dG) (r : Nat → Nat) : dE G (30 + 5 * k) r = .inr (2, [.ref (ra G (31 + 5 * k)), .int (nI (r 1)), .int (nI (r 2)), .int (nI (r 3))]) := by
  unfold dE
  rw [if_neg (by omega), if_neg (by omega), if_neg (by omega), if_neg (by omega), if_neg (by omega), if_neg (by omega), if_neg (by omega), if_neg (by omega), if_neg (by omega), if_neg (by omega), if_neg (by omega), if_pos (by omega), show 30 + 5 * k + 1 = 31 + 5 * k by omega]
/-- one place written -/
def up2 (ν : Mm) (i j v : Nat) : Mm := va_up ν i (va_up (ν i) j v)
theorem up2_at (ν : Mm) (i j v : Nat) : up2 ν i j v i j = v := by simp [up2, va_up]
theorem up2_row (ν : Mm) (i j v : Nat) : up2 ν i j v i = va_up (ν i) j v := by simp [up2, va_up]
theorem up2_ne {ν : Mm} {i j v a : Nat} (h : a ≠ i) : up2 ν i j v a = ν a := by simp [up2, va_up, h]
theorem up2_ne2 {ν : Mm} {i j v a b : Nat} (h : b ≠ j) : up2 ν i j v a b = ν a b := by
  by_cases e : a = i
  · subst e; simp [up2, va_up, h]
  · rw [up2_ne e]
theorem up2_if (ν : Mm) (i j v a b : Nat) : up2 ν i j v a b = if a = i ∧ b = j then v else ν a b := by
  by_cases e : a = i
  · subst e
    by_cases f : b = j
    · subst f; simp [up2, va_up]
    · simp [up2, va_up, f]
  · rw [up2_ne e]; simp [e]
theorem up2_self (ν : Mm) (i j : Nat) : up2 ν i j (ν i j) = ν := by
  funext a b
  rw [up2_if]
  split
  · next h => rw [h.1, h.2]
  · rfl
/-- the memory -/
def dM (G : dG) (ν : Mm) (H : Heap) : Prop := ∀ i, i < 90 → va_at G.1 dkCl (ra G i, dE G i (ν i)) H
def wl (G : dG) (ν : Mm) : va_W := (List.range 90).map fun i => (ra G i, dE G i (ν i))
theorem wl_len (G : dG) (ν : Mm) : (wl G ν).length = 90 := by simp [wl]
theorem wl_get {G : dG} {ν : Mm} {i : Nat} (hi : i < 90) : (wl G ν)[i]? = some (ra G i, dE G i (ν i)) := by
  simp [wl, hi]
theorem wl_some {G : dG} {ν : Mm} {i : Nat} {q : Nat × va_E} (h : (wl G ν)[i]? = some q) : i < 90 ∧ q = (ra G i, dE G i (ν i)) := by
  have hi : i < 90 := by
    have := (List.getElem?_eq_some_iff.mp h).1
    rwa [wl_len] at this
  rw [wl_get hi] at h
  exact ⟨hi, (Option.some.inj h).symm⟩
theorem dM.P {G : dG} {ν : Mm} {H : Heap} (h : dM G ν H) : va_P G.1 dkCl (wl G ν) H := by
  intro k q hk
  obtain ⟨hi, rfl⟩ := wl_some hk
  exact h k hi
theorem dM_of {G : dG} {ν : Mm} {H : Heap} (h : va_P G.1 dkCl (wl G ν) H) : dM G ν H := fun i hi => h i _ (wl_get hi)
/-- which cells may change: the desk's, and new ones -/
def dA (G : dG) (sz : Nat) : Nat → Prop := fun q => (∃ i, i < 90 ∧ q = ra G i) ∨ sz ≤ q
theorem ra_inj {G : dG} {i j : Nat} (h : ra G i = ra G j) : i = j := by
  unfold ra at h; omega
theorem wl_D {G : dG} {ν : Mm} {sz : Nat} : va_D (dA G sz) (wl G ν) := by
  refine ⟨fun i j p q hi hj e => ?_, fun k q hk => ?_⟩
  · obtain ⟨-, rfl⟩ := wl_some hi
    obtain ⟨-, rfl⟩ := wl_some hj
    exact ra_inj e
  · obtain ⟨hi, rfl⟩ := wl_some hk
    exact Or.inl ⟨k, hi, rfl⟩
theorem dM_set {G : dG} {ν ν' : Mm} {H1 : Heap} {i : Nat} {e : va_E} (hi : i < 90) (h : va_P G.1 dkCl ((wl G ν).set i (ra G i, e)) H1) (he : dE G i (ν' i) = e) (ho : ∀ k, k ≠ i → ν' k = ν k) : dM G ν' H1 := by
  intro k hk
  by_cases e1 : k = i
  · subst e1
    rw [he]
    exact h k _ (by rw [List.getElem?_set_self (by rw [wl_len]; exact hk)])
  · rw [ho k e1]
    exact h k _ (by rw [List.getElem?_set_ne (Ne.symm e1)]; exact wl_get hk)
/-! the words: the good ones of the tables; the links between nest mates -/
def allW : List Cond := lw_tbl.filter goodWord
theorem allW_in {w : Cond} (h : w ∈ lw_tbl) (hg : goodWord w = true) : w ∈ allW := List.mem_filter.mpr ⟨h, hg⟩
theorem allW_tbl {w : Cond} (h : w ∈ allW) : w ∈ lw_tbl := (List.mem_filter.mp h).1
theorem goodIn_all {w0 : Cond} {b : List Cond} (hb : ∀ w ∈ allW, w ∈ b) (h0 : w0 ∈ allW) : GoodIn b (w0 :: allW) := by
  intro w hw
  rcases List.mem_cons.mp hw with rfl | hw
  · exact ⟨hb _ h0, good_of_word (List.mem_filter.mp h0).2⟩
  · exact ⟨hb _ hw, good_of_word (List.mem_filter.mp hw).2⟩
def isNest : Cond → Bool
  | .fieldLinkNest .. => true
  | .methodLinkNest .. => true
  | _ => false
def nestW : List Cond := lw_tbl.filter isNest
theorem nestW_in {w : Cond} (h : w ∈ lw_tbl) (hg : isNest w = true) : w ∈ nestW := List.mem_filter.mpr ⟨h, hg⟩
def NZ (U : State) : Prop := ∀ w ∈ nestW, va_Nw w U
theorem NZ.warm {s U : State} (hW : s.WarmedH U.vm) (h : NZ s) : NZ U := by
  intro w hw
  have h1 := h w hw
  have h2 := (List.mem_filter.mp hw).2
  cases w <;> first | exact va_Nw.warmF hW h1 | exact va_Nw.warmM hW h1 | exact absurd h2 (by simp [isNest])
theorem NZ.same {u U : State} (e : u.vm = U.vm) (h : NZ u) : NZ U := by
  intro w hw
  have h1 := h w hw
  have h2 := (List.mem_filter.mp hw).2
  cases w <;> first | exact va_Nw.same rfl e h1 | exact absurd h2 (by simp [isNest])
/-- what the tables are to the desk -/
abbrev dT (G : dG) : List (ClassId × FieldType) := [(G.2.1.1, .int), (G.2.1.2.1, .object RX0), (G.2.1.2.2.1, .object RX2), (G.2.1.2.2.2, .array .int)]
def dK (G : dG) (U : State) : Prop := va_K G.1 dkCl (dT G) U ∧ NZ U
theorem dK.warm {G : dG} {s U : State} (hW : s.WarmedH U.vm) (h : dK G s) : dK G U := ⟨va_K.moved hW.alike h.1, h.2.warm hW⟩
theorem dK.calling {G : dG} {U : State} {g : JFrame} {mk : MethodId} {a : Array Value} (h : dK G U) : dK G (U.calling g mk a) := ⟨va_K.moved (u := U) (U := U.calling g mk a) (Vm.Alike.refl U.vm) h.1, NZ.same (u := U) (U := U.calling g mk a) rfl h.2⟩
/-- a frame of a method of 'own' -/
def dC (p : Program) (s : State) (m : MethodId) (args : Array Value) (c : Code) (cc : ByteArray) (n : Nat) (own : String) (G : dG) : Prop :=
  p.tables.exec = Jvm.exec ∧ c.code = cc ∧ c.maxLocals = n ∧ s.vm.findClass own = some m.cls ∧ (∀ w ∈ allW, w.before args s = true) ∧ dK G s
theorem inA0 : ∀ w ∈ wsX00, w ∈ allW := by decide +kernel
theorem inA1 : ∀ w ∈ wsX10, w ∈ allW := by decide +kernel
theorem inA2 : ∀ w ∈ wsX20, w ∈ allW := by decide +kernel
theorem inA3 : ∀ w ∈ wsX30, w ∈ allW := by decide +kernel
theorem inA4 : ∀ w ∈ wsX40, w ∈ allW := by decide +kernel
theorem inA5 : ∀ w ∈ wsX50, w ∈ allW := by decide +kernel
