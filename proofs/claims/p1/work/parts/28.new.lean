/-! ===== CouponDesk() ===== -/
section RW8
variable {p : Program} {l : Launch} {e : Env} {R : Room} {s : State} {m : MethodId} {args : Array Value} {below : List Frame} {meth : Method} {c : Code} {H : Heap} {locs : List Loc} {cells slots : Nat} {Q : State → Prop}
variable {cc : ByteArray} {pc n : Nat} {ls : Array Slot} {rest : List Value} {own : String} {G : dG} {E : Nat → va_E} {k : Nat}
theorem p_get {C : String} {T : u_T} {N ci index i : Nat} {fs : List Value} {v : Value} (X : dC p s m args c cc n own G) (hP : pM G E k H) (hin : ∀ w ∈ u_ws C T N, w ∈ allW) (hi : i < k) (hE : E i = .inr (ci, fs)) (hc : dkCl[ci]? = some (C, T, N)) (f : Nat) (hf : f < N) (hlink : Cond.fieldLink own index (T f).1 (T f).2.1 (T f).2.2.1 ∈ allW) (hv : fs[f]? = some v) (hdg : decode cc pc = .ok (.getfield index, 3))
    (kk : W p l e R s m args below meth c H locs cells slots Q (F0 m (pc + 3) ls (v :: rest))) : W p l e R s m args below meth c H locs cells slots Q (F0 m pc ls (.ref (ra G i) :: rest)) := by
  obtain ⟨hx, hb, -, hown, hts, hK⟩ := X
  have h0 : va_P G.1 dkCl [(ra G i, .inr (ci, fs))] H := fun j q hj => by
    have hz : j < 1 := (List.getElem?_eq_some_iff.mp hj).1
    rw [show j = 0 by omega] at hj
    cases hj
    have := hP.2 i hi
    rw [hE] at this
    exact this
  exact va_get (D := G.1) (ci := ci) (C := C) (T := T) (N := N) hx hb hts hin hown hK.1 h0 0 rfl hc f hf (hts _ hlink) (fun _ h => h) hv hdg kk
end RW8
abbrev refsE (c : ClassId) (n : Nat) (f : Nat → Option Nat) : va_E := .inl (c, n, .inr (.inr (.inr (.inr f))))
def trayN (G : dG) (E : Nat → va_E) : Prop := E 7 = .inr (4, [.ref (ra G 8), .ref (ra G 9), .ref (ra G 10), .ref (ra G 20), .int (nI 0)]) ∧ E 8 = aI G 60 (fun _ => 0) ∧ E 9 = aI G 60 (fun _ => 0) ∧ E 10 = refsE G.2.1.2.2.2 9 (fun j => if j < 9 then some (ra G (11 + j)) else none) ∧ ∀ j, 11 ≤ j → j ≤ 20 → E j = aI G 60 (fun _ => 0)
def dskN (G : dG) (E : Nat → va_E) : Prop := E 0 = .inr (5, [.ref (ra G 1), .ref (ra G 5), .ref (ra G 6), .ref (ra G 7), .ref (ra G 21), .int (nI 0), .int (nI 0), .int (nI 0), .int (nI 0), .int (nI 1000000)]) ∧ lotN G 1 E ∧ trayN G E ∧ E 21 = .inr (3, [.int (nI 0), .int (nI 0), .int (nI 0), .int (nI 610001), .int (nI 610001)])
theorem dskN_keep {G : dG} {E E' : Nat → va_E} (h : dskN G E) (hk : ∀ j, j < 22 → j ≠ 5 → j ≠ 6 → E' j = E j) : dskN G E' := by
  obtain ⟨h1, h2, ⟨t1, t2, t3, t4, t5⟩, h4⟩ := h
  refine ⟨by rw [hk 0 (by decide) (by decide) (by decide)]; exact h1, ⟨by rw [hk 1 (by decide) (by decide) (by decide)]; exact h2.1, fun j g1 g2 => by rw [hk j (by omega) (by omega) (by omega)]; exact h2.2 j g1 g2⟩, ⟨by rw [hk 7 (by decide) (by decide) (by decide)]; exact t1, by rw [hk 8 (by decide) (by decide) (by decide)]; exact t2, by rw [hk 9 (by decide) (by decide) (by decide)]; exact t3, by rw [hk 10 (by decide) (by decide) (by decide)]; exact t4, fun j g1 g2 => by rw [hk j (by omega) (by omega) (by omega)]; exact t5 j g1 g2⟩, by rw [hk 21 (by decide) (by decide) (by decide)]; exact h4⟩
abbrev cou0 : va_E := .inr (0, [.int (nI 0), .int (nI 0), .int (nI 0), .int (nI 0), .int (nI 0), .int (nI 0)])
def ordN (G : dG) (x : Nat) (E : Nat → va_E) : Prop := E (30 + 5 * x) = .inr (2, [.ref (ra G (31 + 5 * x)), .int (nI 0), .int (nI 0), .int (nI 0)]) ∧ lotN G (31 + 5 * x) E
/-- the desk, new -/
def newN (G : dG) (E : Nat → va_E) : Prop := dskN G E ∧ (∃ f, E 5 = refsE G.2.1.2.1 8 f ∧ ∀ x, x < 8 → f x = some (ra G (22 + x))) ∧ (∃ f, E 6 = refsE G.2.1.2.2.1 12 f ∧ ∀ x, x < 12 → f x = some (ra G (30 + 5 * x))) ∧ (∀ x, x < 8 → E (22 + x) = cou0) ∧ ∀ x, x < 12 → ordN G x E
set_option maxHeartbeats 4000000 in
set_option maxRecDepth 100000 in
theorem c_X5_init {l : Launch} {G : dG} {E : Nat → va_E} (hE : E 0 = .inr (5, [.null, .null, .null, .null, .null, .int (nI 0), .int (nI 0), .int (nI 0), .int (nI 0), .int (nI 0)])) : cN l yX5_init cX5_init 2 3 89 1284 G (0) (1) (90) E (fun E' => newN G E') := by
  refine cN_of (by decide +kernel) rfl (Nat.le_of_ble_eq_true rfl) ?_
  intro p e s m args below meth c ls X hP hNA hini hret hlk hl
  have hS : pS G s.heap s.heap [] := va_S.rf
  replace hl : lv_has ls 2 [(0, _)] := hl
  refine lv_aload_n X.1 X.2.1 dX5_init_0 rfl (lv_at hl 0 rfl) ?_
  refine W.objInit X.1 X.2.1 X.2.2.2.1 (X.2.2.2.2.1 _ kl_X5_3) (X.2.2.2.2.1 _ mi_obj.1) (X.2.2.2.2.1 _ mi_obj.2) rfl (by rw [X.2.2.1]; exact hl.1) rfl dX5_init_1 (Nat.le_of_ble_eq_true rfl) (Nat.le_of_ble_eq_true rfl) ?_
  refine W.eq (g2 := F0 m 4 ls []) rfl ?_
  refine lv_aload_n X.1 X.2.1 dX5_init_4 rfl (lv_at hl 0 rfl) ?_
  refine p_new (ci := 1) (C := RX1) (T := TX1) (N := 3) (fs := [.null, .null, .null]) X hP hS inA1 tyX1_ok kc_X5_9 ki_X1 kn_X1 rfl (fun j hj => by rcases (show j = 0 ∨ j = 1 ∨ j = 2 by omega) with rfl | rfl | rfl <;> rfl) (by show _ ≤ 89; omega) (by show _ ≤ 1284; omega) dX5_init_5 (fun H hP hS => ?_)
  obtain ⟨E1, hq1⟩ : ∃ z, z = va_up E (1) (.inr (1, [.null, .null, .null])) := ⟨_, rfl⟩
  rw [← hq1] at hP
  have hi1 : E1 (1) = .inr (1, [.null, .null, .null]) := by rw [hq1, va_up_self]
  have hn1 : ∀ y, y ≠ 1 → E1 y = E y := fun y hy => by rw [hq1, va_up_ne _ _ hy]
  clear hq1
  refine lv_dup X.1 X.2.1 dX5_init_8 rfl ?_
  refine kNC X hP hS hl.1 (c_X1_init hi1) kl_X5_11 mi_X1 kn_X1 (by decide +kernel) hNA ⟨Nat.le_of_ble_eq_true rfl, Nat.le_of_ble_eq_true rfl⟩ ⟨by show _ ≤ 89; omega, by show _ ≤ 1284; omega⟩ rfl (Nat.le_of_ble_eq_true rfl) dX5_init_9 (fun E2 H locs hl2 hP hS => ?_)
  obtain ⟨hlot2, hk2⟩ := hl2
  have hE2 : E2 0 = .inr (5, [.null, .null, .null, .null, .null, .int (nI 0), .int (nI 0), .int (nI 0), .int (nI 0), .int (nI 0)]) := by rw [hk2 0 (by decide), hn1 0 (by decide)]; exact hE
  refine p_putF (ty := .object "CouponDesk$Lot") (fs' := [.ref (ra G 1), .null, .null, .null, .null, .int (nI 0), .int (nI 0), .int (nI 0), .int (nI 0), .int (nI 0)]) (ci := 5) (C := RX5) (T := TX5) (N := 10) X hini hP hS inA5 tyX5_ok nmX5 (by omega) hE2 rfl 0 (by decide) kl_X5_12 rfl rfl (by decide +kernel) rfl rfl (Nat.le_of_ble_eq_true rfl) rfl dX5_init_12 (fun H locs hP hS => ?_)
  obtain ⟨E3, hq3⟩ : ∃ z, z = va_up E2 (0) (.inr (5, [.ref (ra G 1), .null, .null, .null, .null, .int (nI 0), .int (nI 0), .int (nI 0), .int (nI 0), .int (nI 0)])) := ⟨_, rfl⟩
  rw [← hq3] at hP
  have hi3 : E3 (0) = .inr (5, [.ref (ra G 1), .null, .null, .null, .null, .int (nI 0), .int (nI 0), .int (nI 0), .int (nI 0), .int (nI 0)]) := by rw [hq3, va_up_self]
  have hn3 : ∀ y, y ≠ 0 → E3 y = E2 y := fun y hy => by rw [hq3, va_up_ne _ _ hy]
  clear hq3
  refine lv_aload_n X.1 X.2.1 dX5_init_15 rfl (lv_at hl 0 rfl) ?_
  refine tn_bi (v := 8) X dX5_init_16 (by decide) ?_
  refine p_newq (C := RX0) (t0 := 1) (cA := G.2.1.2.1) X hP hS kc_X5_16 hNA.1 rfl (by decide) (Nat.le_of_ble_eq_true rfl) (Nat.le_of_ble_eq_true rfl) dX5_init_18 (fun H hP hS => ?_)
  obtain ⟨E4, hq4⟩ : ∃ z, z = va_up E3 (5) (refsE G.2.1.2.1 8 (fun _ => none)) := ⟨_, rfl⟩
  rw [← hq4] at hP
  have hi4 : E4 (5) = refsE G.2.1.2.1 8 (fun _ => none) := by rw [hq4, va_up_self]
  have hn4 : ∀ y, y ≠ 5 → E4 y = E3 y := fun y hy => by rw [hq4, va_up_ne _ _ hy]
  clear hq4
  have hE101 : E4 0 = .inr (5, [.ref (ra G 1), .null, .null, .null, .null, .int (nI 0), .int (nI 0), .int (nI 0), .int (nI 0), .int (nI 0)]) := by rw [hn4 0 (by decide)]; exact hi3
  refine p_putF (ty := .array (.object "CouponDesk$Coupon")) (fs' := [.ref (ra G 1), .ref (ra G 5), .null, .null, .null, .int (nI 0), .int (nI 0), .int (nI 0), .int (nI 0), .int (nI 0)]) (ci := 5) (C := RX5) (T := TX5) (N := 10) X hini hP hS inA5 tyX5_ok nmX5 (by omega) hE101 rfl 1 (by decide) kl_X5_18 rfl rfl (by decide +kernel) rfl rfl (Nat.le_of_ble_eq_true rfl) rfl dX5_init_21 (fun H locs hP hS => ?_)
  obtain ⟨E5, hq5⟩ : ∃ z, z = va_up E4 (0) (.inr (5, [.ref (ra G 1), .ref (ra G 5), .null, .null, .null, .int (nI 0), .int (nI 0), .int (nI 0), .int (nI 0), .int (nI 0)])) := ⟨_, rfl⟩
  rw [← hq5] at hP
  have hi5 : E5 (0) = .inr (5, [.ref (ra G 1), .ref (ra G 5), .null, .null, .null, .int (nI 0), .int (nI 0), .int (nI 0), .int (nI 0), .int (nI 0)]) := by rw [hq5, va_up_self]
  have hn5 : ∀ y, y ≠ 0 → E5 y = E4 y := fun y hy => by rw [hq5, va_up_ne _ _ hy]
  clear hq5
  refine lv_aload_n X.1 X.2.1 dX5_init_24 rfl (lv_at hl 0 rfl) ?_
  refine tn_bi (v := 12) X dX5_init_25 (by decide) ?_
  refine p_newq (C := RX2) (t0 := 2) (cA := G.2.1.2.2.1) X hP hS kc_X5_22 hNA.2.1 rfl (by decide) (Nat.le_of_ble_eq_true rfl) (Nat.le_of_ble_eq_true rfl) dX5_init_27 (fun H hP hS => ?_)
  obtain ⟨E6, hq6⟩ : ∃ z, z = va_up E5 (6) (refsE G.2.1.2.2.1 12 (fun _ => none)) := ⟨_, rfl⟩
  rw [← hq6] at hP
  have hi6 : E6 (6) = refsE G.2.1.2.2.1 12 (fun _ => none) := by rw [hq6, va_up_self]
  have hn6 : ∀ y, y ≠ 6 → E6 y = E5 y := fun y hy => by rw [hq6, va_up_ne _ _ hy]
  clear hq6
  have hE102 : E6 0 = .inr (5, [.ref (ra G 1), .ref (ra G 5), .null, .null, .null, .int (nI 0), .int (nI 0), .int (nI 0), .int (nI 0), .int (nI 0)]) := by rw [hn6 0 (by decide)]; exact hi5
  refine p_putF (ty := .array (.object "CouponDesk$Order")) (fs' := [.ref (ra G 1), .ref (ra G 5), .ref (ra G 6), .null, .null, .int (nI 0), .int (nI 0), .int (nI 0), .int (nI 0), .int (nI 0)]) (ci := 5) (C := RX5) (T := TX5) (N := 10) X hini hP hS inA5 tyX5_ok nmX5 (by omega) hE102 rfl 2 (by decide) kl_X5_24 rfl rfl (by decide +kernel) rfl rfl (Nat.le_of_ble_eq_true rfl) rfl dX5_init_30 (fun H locs hP hS => ?_)
  obtain ⟨E7, hq7⟩ : ∃ z, z = va_up E6 (0) (.inr (5, [.ref (ra G 1), .ref (ra G 5), .ref (ra G 6), .null, .null, .int (nI 0), .int (nI 0), .int (nI 0), .int (nI 0), .int (nI 0)])) := ⟨_, rfl⟩
  rw [← hq7] at hP
  have hi7 : E7 (0) = .inr (5, [.ref (ra G 1), .ref (ra G 5), .ref (ra G 6), .null, .null, .int (nI 0), .int (nI 0), .int (nI 0), .int (nI 0), .int (nI 0)]) := by rw [hq7, va_up_self]
  have hn7 : ∀ y, y ≠ 0 → E7 y = E6 y := fun y hy => by rw [hq7, va_up_ne _ _ hy]
  clear hq7
  refine lv_aload_n X.1 X.2.1 dX5_init_33 rfl (lv_at hl 0 rfl) ?_
  refine p_new (ci := 4) (C := RX4) (T := TX4) (N := 5) (fs := [.null, .null, .null, .null, .int (nI 0)]) X hP hS inA4 tyX4_ok kc_X5_28 ki_X4 kn_X4 rfl (fun j hj => by rcases (show j = 0 ∨ j = 1 ∨ j = 2 ∨ j = 3 ∨ j = 4 by omega) with rfl | rfl | rfl | rfl | rfl <;> rfl) (by show _ ≤ 89; omega) (by show _ ≤ 1284; omega) dX5_init_34 (fun H hP hS => ?_)
  obtain ⟨E8, hq8⟩ : ∃ z, z = va_up E7 (7) (.inr (4, [.null, .null, .null, .null, .int (nI 0)])) := ⟨_, rfl⟩
  rw [← hq8] at hP
  have hi8 : E8 (7) = .inr (4, [.null, .null, .null, .null, .int (nI 0)]) := by rw [hq8, va_up_self]
  have hn8 : ∀ y, y ≠ 7 → E8 y = E7 y := fun y hy => by rw [hq8, va_up_ne _ _ hy]
  clear hq8
  refine lv_dup X.1 X.2.1 dX5_init_37 rfl ?_
  refine kNC X hP hS hl.1 (c_X4_init hi8) kl_X5_30 mi_X4 kn_X4 (by decide +kernel) hNA ⟨Nat.le_of_ble_eq_true rfl, Nat.le_of_ble_eq_true rfl⟩ ⟨by show _ ≤ 89; omega, by show _ ≤ 1284; omega⟩ rfl (Nat.le_of_ble_eq_true rfl) dX5_init_38 (fun E9 H locs hl2 hP hS => ?_)
  obtain ⟨ht1, ht2, ht3, ht4, ht5, hk9⟩ := hl2
  have hE9 : E9 0 = .inr (5, [.ref (ra G 1), .ref (ra G 5), .ref (ra G 6), .null, .null, .int (nI 0), .int (nI 0), .int (nI 0), .int (nI 0), .int (nI 0)]) := by rw [hk9 0 (by decide), hn8 0 (by decide)]; exact hi7
  refine p_putF (ty := .object "CouponDesk$Tray") (fs' := [.ref (ra G 1), .ref (ra G 5), .ref (ra G 6), .ref (ra G 7), .null, .int (nI 0), .int (nI 0), .int (nI 0), .int (nI 0), .int (nI 0)]) (ci := 5) (C := RX5) (T := TX5) (N := 10) X hini hP hS inA5 tyX5_ok nmX5 (by omega) hE9 rfl 3 (by decide) kl_X5_31 rfl rfl (by decide +kernel) rfl rfl (Nat.le_of_ble_eq_true rfl) rfl dX5_init_41 (fun H locs hP hS => ?_)
  obtain ⟨E10, hq10⟩ : ∃ z, z = va_up E9 (0) (.inr (5, [.ref (ra G 1), .ref (ra G 5), .ref (ra G 6), .ref (ra G 7), .null, .int (nI 0), .int (nI 0), .int (nI 0), .int (nI 0), .int (nI 0)])) := ⟨_, rfl⟩
  rw [← hq10] at hP
  have hi10 : E10 (0) = .inr (5, [.ref (ra G 1), .ref (ra G 5), .ref (ra G 6), .ref (ra G 7), .null, .int (nI 0), .int (nI 0), .int (nI 0), .int (nI 0), .int (nI 0)]) := by rw [hq10, va_up_self]
  have hn10 : ∀ y, y ≠ 0 → E10 y = E9 y := fun y hy => by rw [hq10, va_up_ne _ _ hy]
  clear hq10
  refine lv_aload_n X.1 X.2.1 dX5_init_44 rfl (lv_at hl 0 rfl) ?_
  refine p_new (ci := 3) (C := RX3) (T := TX3) (N := 5) (fs := [.int (nI 0), .int (nI 0), .int (nI 0), .int (nI 0), .int (nI 0)]) X hP hS inA3 tyX3_ok kc_X5_35 ki_X3 kn_X3 rfl (fun j hj => by rcases (show j = 0 ∨ j = 1 ∨ j = 2 ∨ j = 3 ∨ j = 4 by omega) with rfl | rfl | rfl | rfl | rfl <;> rfl) (by show _ ≤ 89; omega) (by show _ ≤ 1284; omega) dX5_init_45 (fun H hP hS => ?_)
  obtain ⟨E11, hq11⟩ : ∃ z, z = va_up E10 (21) (.inr (3, [.int (nI 0), .int (nI 0), .int (nI 0), .int (nI 0), .int (nI 0)])) := ⟨_, rfl⟩
  rw [← hq11] at hP
  have hi11 : E11 (21) = .inr (3, [.int (nI 0), .int (nI 0), .int (nI 0), .int (nI 0), .int (nI 0)]) := by rw [hq11, va_up_self]
  have hn11 : ∀ y, y ≠ 21 → E11 y = E10 y := fun y hy => by rw [hq11, va_up_ne _ _ hy]
  clear hq11
  refine lv_dup X.1 X.2.1 dX5_init_48 rfl ?_
  refine kNC X hP hS hl.1 (c_X3_init hi11 (by omega)) kl_X5_37 mi_X3 kn_X3 (by decide +kernel) hNA ⟨Nat.le_of_ble_eq_true rfl, Nat.le_of_ble_eq_true rfl⟩ ⟨by show _ ≤ 89; omega, by show _ ≤ 1284; omega⟩ rfl (Nat.le_of_ble_eq_true rfl) dX5_init_49 (fun E12 H locs hl2 hP hS => ?_)
  obtain ⟨hse12, hk12⟩ := hl2
  have hE12 : E12 0 = .inr (5, [.ref (ra G 1), .ref (ra G 5), .ref (ra G 6), .ref (ra G 7), .null, .int (nI 0), .int (nI 0), .int (nI 0), .int (nI 0), .int (nI 0)]) := by rw [hk12 0 (by decide), hn11 0 (by decide)]; exact hi10
  refine p_putF (ty := .object "CouponDesk$Search") (fs' := [.ref (ra G 1), .ref (ra G 5), .ref (ra G 6), .ref (ra G 7), .ref (ra G 21), .int (nI 0), .int (nI 0), .int (nI 0), .int (nI 0), .int (nI 0)]) (ci := 5) (C := RX5) (T := TX5) (N := 10) X hini hP hS inA5 tyX5_ok nmX5 (by omega) hE12 rfl 4 (by decide) kl_X5_38 rfl rfl (by decide +kernel) rfl rfl (Nat.le_of_ble_eq_true rfl) rfl dX5_init_52 (fun H locs hP hS => ?_)
  obtain ⟨E13, hq13⟩ : ∃ z, z = va_up E12 (0) (.inr (5, [.ref (ra G 1), .ref (ra G 5), .ref (ra G 6), .ref (ra G 7), .ref (ra G 21), .int (nI 0), .int (nI 0), .int (nI 0), .int (nI 0), .int (nI 0)])) := ⟨_, rfl⟩
  rw [← hq13] at hP
  have hi13 : E13 (0) = .inr (5, [.ref (ra G 1), .ref (ra G 5), .ref (ra G 6), .ref (ra G 7), .ref (ra G 21), .int (nI 0), .int (nI 0), .int (nI 0), .int (nI 0), .int (nI 0)]) := by rw [hq13, va_up_self]
  have hn13 : ∀ y, y ≠ 0 → E13 y = E12 y := fun y hy => by rw [hq13, va_up_ne _ _ hy]
  clear hq13
  refine lv_aload_n X.1 X.2.1 dX5_init_55 rfl (lv_at hl 0 rfl) ?_
  refine tn_ic (v := 0) X dX5_init_56 (by decide) ?_
  refine p_put (ty := .int) (fs' := [.ref (ra G 1), .ref (ra G 5), .ref (ra G 6), .ref (ra G 7), .ref (ra G 21), .int (nI 0), .int (nI 0), .int (nI 0), .int (nI 0), .int (nI 0)]) (ci := 5) (C := RX5) (T := TX5) (N := 10) X hP hS inA5 tyX5_ok nmX5 (by omega) hi13 rfl 5 (by decide) kl_X5_42 rfl rfl (by decide +kernel) rfl rfl (Nat.le_of_ble_eq_true rfl) rfl dX5_init_57 (fun H locs hP hS => ?_)
  obtain ⟨E14, hq14⟩ : ∃ z, z = va_up E13 (0) (.inr (5, [.ref (ra G 1), .ref (ra G 5), .ref (ra G 6), .ref (ra G 7), .ref (ra G 21), .int (nI 0), .int (nI 0), .int (nI 0), .int (nI 0), .int (nI 0)])) := ⟨_, rfl⟩
  rw [← hq14] at hP
  have hi14 : E14 (0) = .inr (5, [.ref (ra G 1), .ref (ra G 5), .ref (ra G 6), .ref (ra G 7), .ref (ra G 21), .int (nI 0), .int (nI 0), .int (nI 0), .int (nI 0), .int (nI 0)]) := by rw [hq14, va_up_self]
  have hn14 : ∀ y, y ≠ 0 → E14 y = E13 y := fun y hy => by rw [hq14, va_up_ne _ _ hy]
  clear hq14
  refine lv_aload_n X.1 X.2.1 dX5_init_60 rfl (lv_at hl 0 rfl) ?_
  refine tn_ic (v := 0) X dX5_init_61 (by decide) ?_
  refine p_put (ty := .int) (fs' := [.ref (ra G 1), .ref (ra G 5), .ref (ra G 6), .ref (ra G 7), .ref (ra G 21), .int (nI 0), .int (nI 0), .int (nI 0), .int (nI 0), .int (nI 0)]) (ci := 5) (C := RX5) (T := TX5) (N := 10) X hP hS inA5 tyX5_ok nmX5 (by omega) hi14 rfl 6 (by decide) kl_X5_46 rfl rfl (by decide +kernel) rfl rfl (Nat.le_of_ble_eq_true rfl) rfl dX5_init_62 (fun H locs hP hS => ?_)
  obtain ⟨E15, hq15⟩ : ∃ z, z = va_up E14 (0) (.inr (5, [.ref (ra G 1), .ref (ra G 5), .ref (ra G 6), .ref (ra G 7), .ref (ra G 21), .int (nI 0), .int (nI 0), .int (nI 0), .int (nI 0), .int (nI 0)])) := ⟨_, rfl⟩
  rw [← hq15] at hP
  have hi15 : E15 (0) = .inr (5, [.ref (ra G 1), .ref (ra G 5), .ref (ra G 6), .ref (ra G 7), .ref (ra G 21), .int (nI 0), .int (nI 0), .int (nI 0), .int (nI 0), .int (nI 0)]) := by rw [hq15, va_up_self]
  have hn15 : ∀ y, y ≠ 0 → E15 y = E14 y := fun y hy => by rw [hq15, va_up_ne _ _ hy]
  clear hq15
  refine lv_aload_n X.1 X.2.1 dX5_init_65 rfl (lv_at hl 0 rfl) ?_
  refine tn_ic (v := 0) X dX5_init_66 (by decide) ?_
  refine p_put (ty := .int) (fs' := [.ref (ra G 1), .ref (ra G 5), .ref (ra G 6), .ref (ra G 7), .ref (ra G 21), .int (nI 0), .int (nI 0), .int (nI 0), .int (nI 0), .int (nI 0)]) (ci := 5) (C := RX5) (T := TX5) (N := 10) X hP hS inA5 tyX5_ok nmX5 (by omega) hi15 rfl 7 (by decide) kl_X5_49 rfl rfl (by decide +kernel) rfl rfl (Nat.le_of_ble_eq_true rfl) rfl dX5_init_67 (fun H locs hP hS => ?_)
  obtain ⟨E16, hq16⟩ : ∃ z, z = va_up E15 (0) (.inr (5, [.ref (ra G 1), .ref (ra G 5), .ref (ra G 6), .ref (ra G 7), .ref (ra G 21), .int (nI 0), .int (nI 0), .int (nI 0), .int (nI 0), .int (nI 0)])) := ⟨_, rfl⟩
  rw [← hq16] at hP
  have hi16 : E16 (0) = .inr (5, [.ref (ra G 1), .ref (ra G 5), .ref (ra G 6), .ref (ra G 7), .ref (ra G 21), .int (nI 0), .int (nI 0), .int (nI 0), .int (nI 0), .int (nI 0)]) := by rw [hq16, va_up_self]
  have hn16 : ∀ y, y ≠ 0 → E16 y = E15 y := fun y hy => by rw [hq16, va_up_ne _ _ hy]
  clear hq16
  refine lv_aload_n X.1 X.2.1 dX5_init_70 rfl (lv_at hl 0 rfl) ?_
  refine tn_ic (v := 0) X dX5_init_71 (by decide) ?_
  refine p_put (ty := .int) (fs' := [.ref (ra G 1), .ref (ra G 5), .ref (ra G 6), .ref (ra G 7), .ref (ra G 21), .int (nI 0), .int (nI 0), .int (nI 0), .int (nI 0), .int (nI 0)]) (ci := 5) (C := RX5) (T := TX5) (N := 10) X hP hS inA5 tyX5_ok nmX5 (by omega) hi16 rfl 8 (by decide) kl_X5_52 rfl rfl (by decide +kernel) rfl rfl (Nat.le_of_ble_eq_true rfl) rfl dX5_init_72 (fun H locs hP hS => ?_)
  obtain ⟨E17, hq17⟩ : ∃ z, z = va_up E16 (0) (.inr (5, [.ref (ra G 1), .ref (ra G 5), .ref (ra G 6), .ref (ra G 7), .ref (ra G 21), .int (nI 0), .int (nI 0), .int (nI 0), .int (nI 0), .int (nI 0)])) := ⟨_, rfl⟩
  rw [← hq17] at hP
  have hi17 : E17 (0) = .inr (5, [.ref (ra G 1), .ref (ra G 5), .ref (ra G 6), .ref (ra G 7), .ref (ra G 21), .int (nI 0), .int (nI 0), .int (nI 0), .int (nI 0), .int (nI 0)]) := by rw [hq17, va_up_self]
  have hn17 : ∀ y, y ≠ 0 → E17 y = E16 y := fun y hy => by rw [hq17, va_up_ne _ _ hy]
  clear hq17
  refine lv_aload_n X.1 X.2.1 dX5_init_75 rfl (lv_at hl 0 rfl) ?_
  refine tn_ldc (w := 1000000) X kl_X5_55 (by decide) dX5_init_76 ?_
  refine p_put (ty := .int) (fs' := [.ref (ra G 1), .ref (ra G 5), .ref (ra G 6), .ref (ra G 7), .ref (ra G 21), .int (nI 0), .int (nI 0), .int (nI 0), .int (nI 0), .int (nI 1000000)]) (ci := 5) (C := RX5) (T := TX5) (N := 10) X hP hS inA5 tyX5_ok nmX5 (by omega) hi17 rfl 9 (by decide) kl_X5_56 rfl rfl (by decide +kernel) rfl rfl (Nat.le_of_ble_eq_true rfl) rfl dX5_init_78 (fun H locs hP hS => ?_)
  obtain ⟨E18, hq18⟩ : ∃ z, z = va_up E17 (0) (.inr (5, [.ref (ra G 1), .ref (ra G 5), .ref (ra G 6), .ref (ra G 7), .ref (ra G 21), .int (nI 0), .int (nI 0), .int (nI 0), .int (nI 0), .int (nI 1000000)])) := ⟨_, rfl⟩
  rw [← hq18] at hP
  have hi18 : E18 (0) = .inr (5, [.ref (ra G 1), .ref (ra G 5), .ref (ra G 6), .ref (ra G 7), .ref (ra G 21), .int (nI 0), .int (nI 0), .int (nI 0), .int (nI 0), .int (nI 1000000)]) := by rw [hq18, va_up_self]
  have hn18 : ∀ y, y ≠ 0 → E18 y = E17 y := fun y hy => by rw [hq18, va_up_ne _ _ hy]
  clear hq18
  have hk18 : ∀ j, j ≠ 0 → E18 j = E12 j := fun j hj => by rw [hn18 j hj, hn17 j hj, hn16 j hj, hn15 j hj, hn14 j hj, hn13 j hj]
  have hb18 : ∀ j, j ≠ 0 → j ≠ 21 → E18 j = E9 j := fun j h1 h2 => by rw [hk18 j h1, hk12 j h2, hn11 j h2, hn10 j h1]
  have hc18 : ∀ j, j ≠ 0 → j < 7 → E18 j = E6 j := fun j h1 h2 => by rw [hb18 j h1 (by omega), hk9 j h2, hn8 j (by omega), hn7 j h1]
  have hd18 : dskN G E18 := ⟨hi18, ⟨by rw [hc18 1 (by decide) (by decide), hn6 1 (by decide), hn5 1 (by decide), hn4 1 (by decide), hn3 1 (by decide)]; exact hlot2.1, fun j h1 h2 => by rw [hc18 j (by omega) (by omega), hn6 j (by omega), hn5 j (by omega), hn4 j (by omega), hn3 j (by omega)]; exact hlot2.2 j h1 h2⟩, ⟨by rw [hb18 7 (by decide) (by decide)]; exact ht1, by rw [hb18 8 (by decide) (by decide)]; exact ht2, by rw [hb18 9 (by decide) (by decide)]; exact ht3, by rw [hb18 10 (by decide) (by decide)]; exact ht4, fun j h1 h2 => by rw [hb18 j (by omega) (by omega)]; exact ht5 j (by omega) (by omega)⟩, by rw [hk18 21 (by decide)]; exact hse12⟩
  have h5 : E18 5 = refsE G.2.1.2.1 8 (fun _ => none) := by rw [hc18 5 (by decide) (by decide), hn6 5 (by decide), hn5 5 (by decide)]; exact hi4
  have h6 : E18 6 = refsE G.2.1.2.2.1 12 (fun _ => none) := by rw [hc18 6 (by decide) (by decide)]; exact hi6
  have Lo : ∀ (z j : Nat) (E : Nat → va_E) (f : Nat → Option Nat), j + z = 12 → dskN G E → (∃ f, E 5 = refsE G.2.1.2.1 8 f ∧ ∀ x, x < 8 → f x = some (ra G (22 + x))) → E 6 = refsE G.2.1.2.2.1 12 f → (∀ x, x < j → f x = some (ra G (30 + 5 * x))) → (∀ x, x < 8 → E (22 + x) = cou0) → (∀ x, x < j → ordN G x E) → ∀ (ls : Array Slot) (H : Heap) (locs : List Loc), pM G E (30 + 5 * j) H → pS G s.heap H locs → lv_has ls 2 [(0, .ref (ra G 0)), (1, .int (nI j))] → W p l e (rmC 3 89 1284) s m args below meth c H locs (29 + 5 * j) (840 + 37 * j) (MQ below (nQ G (90) (fun E' => newN G E')) args s 89 1284 (pA G)) (F0 m 110 ls []) := by
    intro z
    induction z with
    | zero =>
      intro j E f hj hd0 h5 h6 hf hc0 ho ls H locs hP hS hl
      refine lv_iload_n X.1 X.2.1 dX5_init_110 rfl (lv_at hl 1 rfl) ?_
      refine tn_bi (v := 12) X dX5_init_111 (by decide) ?_
      refine tn_ge (tgt := 135) X dX5_init_113 (by decide) (by omega) (by decide) (fun h => ?_) (fun h => ?_)
      · obtain rfl : j = 12 := by omega
        exact rN ⟨hd0, h5, ⟨f, h6, hf⟩, hc0, ho⟩ X hP hS hret hlk dX5_init_135
      · exfalso; omega
    | succ z ih =>
      intro j E f hj hd0 h5 h6 hf hc0 ho ls H locs hP hS hl
      refine lv_iload_n X.1 X.2.1 dX5_init_110 rfl (lv_at hl 1 rfl) ?_
      refine tn_bi (v := 12) X dX5_init_111 (by decide) ?_
      refine tn_ge (tgt := 135) X dX5_init_113 (by decide) (by omega) (by decide) (fun h => ?_) (fun h => ?_)
      · exfalso; omega
      · refine lv_aload_n X.1 X.2.1 dX5_init_116 rfl (lv_at hl 0 rfl) ?_
        refine p_get (ci := 5) (C := RX5) (T := TX5) (N := 10) X hP inA5 (by omega) hd0.1 rfl 2 (by decide) kl_X5_24 rfl dX5_init_117 ?_
        refine lv_iload_n X.1 X.2.1 dX5_init_120 rfl (lv_at hl 1 rfl) ?_
        refine p_new (ci := 2) (C := RX2) (T := TX2) (N := 4) (fs := [.null, .int (nI 0), .int (nI 0), .int (nI 0)]) X hP hS inA2 tyX2_ok kc_X5_22 ki_X2 kn_X2 rfl (fun j hj => by rcases (show j = 0 ∨ j = 1 ∨ j = 2 ∨ j = 3 by omega) with rfl | rfl | rfl | rfl <;> rfl) (by show _ ≤ 89; omega) (by show _ ≤ 1284; omega) dX5_init_121 (fun H hP hS => ?_)
        obtain ⟨E21, hq21⟩ : ∃ z, z = va_up E (30 + 5 * j) (.inr (2, [.null, .int (nI 0), .int (nI 0), .int (nI 0)])) := ⟨_, rfl⟩
        rw [← hq21] at hP
        have hi21 : E21 (30 + 5 * j) = .inr (2, [.null, .int (nI 0), .int (nI 0), .int (nI 0)]) := by rw [hq21, va_up_self]
        have hn21 : ∀ y, y ≠ 30 + 5 * j → E21 y = E y := fun y hy => by rw [hq21, va_up_ne _ _ hy]
        clear hq21
        refine lv_dup X.1 X.2.1 dX5_init_124 rfl ?_
        refine kNC X hP hS hl.1 (c_X2_init hi21) kl_X5_60 mi_X2 kn_X2 (by decide +kernel) hNA ⟨Nat.le_of_ble_eq_true rfl, Nat.le_of_ble_eq_true rfl⟩ ⟨by show _ ≤ 89; omega, by show _ ≤ 1284; omega⟩ rfl (Nat.le_of_ble_eq_true rfl) dX5_init_125 (fun E22 H locs hl2 hP hS => ?_)
        obtain ⟨ho22, hlot22, hk22⟩ := hl2
        have h622 : E22 6 = refsE G.2.1.2.2.1 12 f := by rw [hk22 6 (by omega), hn21 6 (by omega)]; exact h6
        refine p_aast (i := 6) (q := 30 + 5 * j) (t0 := 2) (ci := 2) (r := (RX2, TX2, 4)) X hP hS (by omega) (by omega) h622 ho22 rfl rfl (by omega) (by decide) dX5_init_128 (fun H locs hP hS => ?_)
        obtain ⟨E23, hq23⟩ : ∃ z, z = va_up E22 (6) (refsE G.2.1.2.2.1 12 (va_up f j (some (ra G (30 + 5 * j))))) := ⟨_, rfl⟩
        rw [← hq23] at hP
        have hi23 : E23 (6) = refsE G.2.1.2.2.1 12 (va_up f j (some (ra G (30 + 5 * j)))) := by rw [hq23, va_up_self]
        have hn23 : ∀ y, y ≠ 6 → E23 y = E22 y := fun y hy => by rw [hq23, va_up_ne _ _ hy]
        clear hq23
        refine tn_inc (k := 1) (w := 1) X dX5_init_129 hl rfl (by decide) (by decide) rfl (fun ls hl => ?_)
        replace hl : lv_has ls 2 [(1, _), (0, _)] := hl
        refine lv_goto (tgt := 110) X.1 X.2.1 dX5_init_132 (by decide) ?_
        have hlow : ∀ y, y < 30 + 5 * j → y ≠ 6 → E23 y = E y := fun y h1 h2 => by rw [hn23 y h2, hk22 y h1, hn21 y (by omega)]
        refine W.widen (k := 29 + 5 * (j + 1)) (n := 840 + 37 * (j + 1)) (by omega) (by omega) (ih (j + 1) E23 _ (by omega) (dskN_keep hd0 (fun y h1 _ h2 => hlow y (by omega) h2)) ?_ hi23 (fun x hx => ?_) (fun x hx => by rw [hlow _ (by omega) (by omega)]; exact hc0 x hx) (fun x hx => ?_) ls H locs (by rw [show 30 + 5 * (j + 1) = 30 + 5 * j + 5 by omega]; exact hP) hS (lv_sub hl [1, 0] rfl))
        · obtain ⟨g, g1, g2⟩ := h5
          exact ⟨g, by rw [hlow 5 (by omega) (by decide)]; exact g1, g2⟩
        · by_cases e9 : x = j
          · rw [e9, va_up_self]
          · rw [va_up_ne _ _ e9]; exact hf x (by omega)
        · by_cases e9 : x = j
          · rw [e9]
            exact ⟨by rw [hn23 _ (by omega), ho22, show 30 + 5 * j + 1 = 31 + 5 * j by omega], lotN_keep (by rw [show 31 + 5 * j = 30 + 5 * j + 1 by omega]; exact hlot22) (fun y h1 => hn23 y (by omega))⟩
          · have h9 := ho x (by omega)
            exact ⟨by rw [hlow _ (by omega) (by omega)]; exact h9.1, ⟨by rw [hlow _ (by omega) (by omega)]; exact h9.2.1, fun y g1 g2 => by rw [hlow y (by omega) (by omega)]; exact h9.2.2 y g1 g2⟩⟩
  have Lc : ∀ (z j : Nat) (E : Nat → va_E) (f : Nat → Option Nat), j + z = 8 → dskN G E → E 5 = refsE G.2.1.2.1 8 f → (∀ x, x < j → f x = some (ra G (22 + x))) → E 6 = refsE G.2.1.2.2.1 12 (fun _ => none) → (∀ x, x < j → E (22 + x) = cou0) → ∀ (ls : Array Slot) (H : Heap) (locs : List Loc), pM G E (22 + j) H → pS G s.heap H locs → lv_has ls 2 [(0, .ref (ra G 0)), (1, .int (nI j))] → W p l e (rmC 3 89 1284) s m args below meth c H locs (21 + j) (792 + 6 * j) (MQ below (nQ G (90) (fun E' => newN G E')) args s 89 1284 (pA G)) (F0 m 83 ls []) := by
    intro z
    induction z with
    | zero =>
      intro j E f hj hd0 h5 hf h6 hc0 ls H locs hP hS hl
      refine lv_iload_n X.1 X.2.1 dX5_init_83 rfl (lv_at hl 1 rfl) ?_
      refine tn_bi (v := 8) X dX5_init_84 (by decide) ?_
      refine tn_ge (tgt := 108) X dX5_init_86 (by decide) (by omega) (by decide) (fun h => ?_) (fun h => ?_)
      · obtain rfl : j = 8 := by omega
        refine tn_ic (v := 0) X dX5_init_108 (by decide) ?_
        refine lv_istore_n X.1 X.2.1 dX5_init_109 rfl hl (by decide) rfl (fun ls hl => ?_)
        replace hl : lv_has ls 2 [(1, _), (0, _)] := hl
        exact Lo 12 0 E _ rfl hd0 ⟨f, h5, hf⟩ h6 (fun x hx => absurd hx (Nat.not_lt_zero x)) hc0 (fun x hx => absurd hx (Nat.not_lt_zero x)) ls H locs hP hS (lv_sub hl [1, 0] rfl)
      · exfalso; omega
    | succ z ih =>
      intro j E f hj hd0 h5 hf h6 hc0 ls H locs hP hS hl
      refine lv_iload_n X.1 X.2.1 dX5_init_83 rfl (lv_at hl 1 rfl) ?_
      refine tn_bi (v := 8) X dX5_init_84 (by decide) ?_
      refine tn_ge (tgt := 108) X dX5_init_86 (by decide) (by omega) (by decide) (fun h => ?_) (fun h => ?_)
      · exfalso; omega
      · refine lv_aload_n X.1 X.2.1 dX5_init_89 rfl (lv_at hl 0 rfl) ?_
        refine p_get (ci := 5) (C := RX5) (T := TX5) (N := 10) X hP inA5 (by omega) hd0.1 rfl 1 (by decide) kl_X5_18 rfl dX5_init_90 ?_
        refine lv_iload_n X.1 X.2.1 dX5_init_93 rfl (lv_at hl 1 rfl) ?_
        refine p_new (ci := 0) (C := RX0) (T := TX0) (N := 6) (fs := [.int (nI 0), .int (nI 0), .int (nI 0), .int (nI 0), .int (nI 0), .int (nI 0)]) X hP hS inA0 tyX0_ok kc_X5_16 ki_X0 kn_X0 rfl (fun j hj => by rcases (show j = 0 ∨ j = 1 ∨ j = 2 ∨ j = 3 ∨ j = 4 ∨ j = 5 by omega) with rfl | rfl | rfl | rfl | rfl | rfl <;> rfl) (by show _ ≤ 89; omega) (by show _ ≤ 1284; omega) dX5_init_94 (fun H hP hS => ?_)
        obtain ⟨E21, hq21⟩ : ∃ z, z = va_up E (22 + j) (.inr (0, [.int (nI 0), .int (nI 0), .int (nI 0), .int (nI 0), .int (nI 0), .int (nI 0)])) := ⟨_, rfl⟩
        rw [← hq21] at hP
        have hi21 : E21 (22 + j) = .inr (0, [.int (nI 0), .int (nI 0), .int (nI 0), .int (nI 0), .int (nI 0), .int (nI 0)]) := by rw [hq21, va_up_self]
        have hn21 : ∀ y, y ≠ 22 + j → E21 y = E y := fun y hy => by rw [hq21, va_up_ne _ _ hy]
        clear hq21
        refine lv_dup X.1 X.2.1 dX5_init_97 rfl ?_
        refine kNC X hP hS hl.1 (c_X0_init hi21 (by omega)) kl_X5_59 mi_X0 kn_X0 (by decide +kernel) hNA ⟨Nat.le_of_ble_eq_true rfl, Nat.le_of_ble_eq_true rfl⟩ ⟨by show _ ≤ 89; omega, by show _ ≤ 1284; omega⟩ rfl (Nat.le_of_ble_eq_true rfl) dX5_init_98 (fun E22 H locs hl2 hP hS => ?_)
        obtain ⟨hc22, hk22⟩ := hl2
        have h522 : E22 5 = refsE G.2.1.2.1 8 f := by rw [hk22 5 (by omega), hn21 5 (by omega)]; exact h5
        refine p_aast (i := 5) (q := 22 + j) (t0 := 1) (ci := 0) (r := (RX0, TX0, 6)) X hP hS (by omega) (by omega) h522 hc22 rfl rfl (by omega) (by decide) dX5_init_101 (fun H locs hP hS => ?_)
        obtain ⟨E23, hq23⟩ : ∃ z, z = va_up E22 (5) (refsE G.2.1.2.1 8 (va_up f j (some (ra G (22 + j))))) := ⟨_, rfl⟩
        rw [← hq23] at hP
        have hi23 : E23 (5) = refsE G.2.1.2.1 8 (va_up f j (some (ra G (22 + j)))) := by rw [hq23, va_up_self]
        have hn23 : ∀ y, y ≠ 5 → E23 y = E22 y := fun y hy => by rw [hq23, va_up_ne _ _ hy]
        clear hq23
        refine tn_inc (k := 1) (w := 1) X dX5_init_102 hl rfl (by decide) (by decide) rfl (fun ls hl => ?_)
        replace hl : lv_has ls 2 [(1, _), (0, _)] := hl
        refine lv_goto (tgt := 83) X.1 X.2.1 dX5_init_105 (by decide) ?_
        have hlow : ∀ y, y < 22 + j → y ≠ 5 → E23 y = E y := fun y h1 h2 => by rw [hn23 y h2, hk22 y (by omega), hn21 y (by omega)]
        refine W.widen (k := 21 + (j + 1)) (n := 792 + 6 * (j + 1)) (by omega) (by omega) (ih (j + 1) E23 _ (by omega) (dskN_keep hd0 (fun y h1 h2 _ => hlow y (by omega) h2)) hi23 (fun x hx => ?_) (by rw [hlow 6 (by omega) (by decide)]; exact h6) (fun x hx => ?_) ls H locs hP hS (lv_sub hl [1, 0] rfl))
        · by_cases e9 : x = j
          · rw [e9, va_up_self]
          · rw [va_up_ne _ _ e9]; exact hf x (by omega)
        · by_cases e9 : x = j
          · rw [e9, hn23 _ (by omega)]; exact hc22
          · rw [hlow _ (by omega) (by omega)]; exact hc0 x (by omega)
  refine tn_ic (v := 0) X dX5_init_81 (by decide) ?_
  refine lv_istore_n X.1 X.2.1 dX5_init_82 rfl hl (by decide) rfl (fun ls hl => ?_)
  replace hl : lv_has ls 2 [(1, _), (0, _)] := hl
  exact Lc 8 0 E18 _ rfl hd18 h5 (fun x hx => absurd hx (Nat.not_lt_zero x)) h6 (fun x hx => absurd hx (Nat.not_lt_zero x)) ls H locs hP hS (lv_sub hl [1, 0] rfl)
/-- the numbers of a new desk -/
def nu0 : Mm := fun i j => if i = 0 ∧ j = 9 then 1000000 else if i = 21 ∧ (j = 3 ∨ j = 4) then 610001 else 0
theorem arrV_congr {c : ClassId} {n : Nat} {f g : Nat → Value} (h : ∀ j, j < n → f j = g j) : arrV c n f = arrV c n g := by
  unfold arrV
  congr 1
  apply Array.ext
  · simp
  · intro i h1 h2
    simp at h1 ⊢
    exact h i (by simpa using h1)
theorem refs_at {D : va_G} {c : ClassId} {n a : Nat} {f : Nat → Option Nat} {g : Nat → Nat} {H : Heap} (h : va_at D dkCl (a, refsE c n f) H) (hfg : ∀ j, j < n → f j = some (g j)) : va_at D dkCl (a, aR c n g) H := by
  have h1 : H[a]? = some (arrV c n (fun j => va_rf (f j))) := h
  show H[a]? = some (arrV c n (fun j => va_rf (some (g j))))
  rw [h1]
  congr 1
  exact arrV_congr (fun j hj => by rw [hfg j hj])
theorem newN_dM {G : dG} {E : Nat → va_E} {H : Heap} (hN : newN G E) (hP : pM G E 90 H) : dM G nu0 H := by
  obtain ⟨⟨h0, h1, ⟨t1, t2, t3, t4, t5⟩, h21⟩, ⟨f5, e5, g5⟩, ⟨f6, e6, g6⟩, hc, ho⟩ := hN
  have hrow : ∀ (i n : Nat), (∀ j, nu0 i j = 0) → E i = aI G n (fun _ => 0) → E i = aI G n (nu0 i) := fun i n hz he => by
    rw [he]; unfold aI
    have : (fun j => nI (nu0 i j)) = (fun _ => nI 0) := funext fun j => by rw [hz j]
    rw [this]
  have hz : ∀ i j, i ≠ 0 → i ≠ 21 → nu0 i j = 0 := fun i j a b => by simp [nu0, a, b]
  intro i hi
  have hat := hP.2 i hi
  by_cases c5 : i = 5
  · subst c5; rw [e5] at hat; exact refs_at hat g5
  by_cases c6 : i = 6
  · subst c6; rw [e6] at hat; exact refs_at hat g6
  by_cases c10 : i = 10
  · subst c10; rw [t4] at hat; exact refs_at hat (fun j hj => if_pos hj)
  have key : E i = dE G i (nu0 i) := by
    by_cases c0 : i = 0
    · subst c0; rw [h0]; rfl
    by_cases c21 : i = 21
    · subst c21; rw [h21]; rfl
    have hzi : ∀ j, nu0 i j = 0 := fun j => hz i j c0 c21
    by_cases c1 : i = 1
    · subst c1; exact h1.1
    by_cases c4 : i ≤ 4
    · have e := h1.2 i (by omega) (by omega)
      obtain ⟨c, rfl⟩ : ∃ c, i = 1 + c := ⟨i - 1, by omega⟩
      rw [dE_lotA lotB_1 (by omega) (by omega)]
      exact hrow _ 10 hzi e
    by_cases c7 : i = 7
    · subst c7; rw [t1]; rfl
    by_cases c8 : i = 8
    · subst c8; exact hrow 8 60 hzi t2
    by_cases c9 : i = 9
    · subst c9; exact hrow 9 60 hzi t3
    by_cases c20 : i ≤ 20
    · have e := t5 i (by omega) (by omega)
      by_cases d20 : i = 20
      · subst d20; exact hrow 20 60 hzi e
      · obtain ⟨c, rfl⟩ : ∃ c, i = 11 + c := ⟨i - 11, by omega⟩
        rw [dE_row (by omega)]
        exact hrow _ 60 hzi e
    by_cases c29 : i ≤ 29
    · obtain ⟨c, rfl⟩ : ∃ c, i = 22 + c := ⟨i - 22, by omega⟩
      rw [dE_cou (by omega), hc c (by omega)]
      simp only [hzi]
    obtain ⟨x, y, hxy, hx, hy⟩ : ∃ x y, i = 30 + 5 * x + y ∧ x < 12 ∧ y < 5 := ⟨(i - 30) / 5, (i - 30) % 5, by omega, by omega, by omega⟩
    have hox := ho x hx
    by_cases y0 : y = 0
    · obtain rfl : i = 30 + 5 * x := by omega
      rw [dE_ord hx, hox.1]
      simp only [hzi]
    by_cases y1 : y = 1
    · obtain rfl : i = 31 + 5 * x := by omega
      rw [dE_lot (lotB_o hx)]; exact hox.2.1
    · obtain ⟨c, hc1, rfl⟩ : ∃ c, c = y - 1 ∧ i = 31 + 5 * x + c := ⟨y - 1, rfl, by omega⟩
      have e := hox.2.2 (31 + 5 * x + c) (by omega) (by omega)
      rw [dE_lotA (lotB_o hx) (by omega) (by omega)]
      exact hrow _ 10 hzi e
  rw [key] at hat
  exact hat
theorem nu0_WD : WD nu0 := by
  have hz : ∀ i j, i ≠ 0 → i ≠ 21 → nu0 i j = 0 := fun i j a b => by simp [nu0, a, b]
  refine ⟨fun L hL a ha => ?_, fun k hk => ?_, fun k hk => ?_, ?_⟩
  · have := lotB_1m hL
    rw [hz _ _ (by omega) (by omega), hz _ _ (by omega) (by omega), hz _ _ (by omega) (by omega)]
    exact ⟨by decide, by decide, by decide⟩
  · unfold couOK
    simp only [hz (22 + k) _ (by omega) (by omega)]
    decide
  · unfold ordOK
    simp only [hz (30 + 5 * k) _ (by omega) (by omega)]
    decide
  · decide
