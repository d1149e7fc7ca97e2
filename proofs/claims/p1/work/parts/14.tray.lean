/-! ===== Tray: percent, amount, sums ===== -/
set_option maxHeartbeats 4000000 in
set_option maxRecDepth 100000 in
theorem c_X4_matchedRests {l : Launch} {G : dG} {ν : Mm} {q r : Nat} (hq : q < 8) (hr : r < 9) (hcs : ν (22 + q) 2 < 2 ^ 31) (hn : ν 7 4 ≤ 60) (hct : ∀ i, i < ν 7 4 → ν 9 i < 32) : cI l yX4_matchedRests cX4_matchedRests 5 (some .int) 1 G [.ref (ra G 7), .ref (ra G (22 + q)), .ref (ra G (11 + r))] ν (fun x ν' => x = ms (ν 9) (ν (22 + q) 2) (ν (11 + r)) (ν 7 4) ∧ ν' = ν) := by
  refine cI_of (by decide +kernel) (Nat.le_of_ble_eq_true rfl) ?_
  intro p e s m args below meth c ls X hM hret hlk hl
  have hS : dS G s.heap s.heap [] := va_S.rf
  refine tn_ic (v := 0) X dX4_matchedRests_0 (by decide) ?_
  refine lv_istore_n X.1 X.2.1 dX4_matchedRests_1 rfl hl (by decide) rfl (fun ls hl => ?_)
  replace hl : lv_has ls 5 [(3, _), (0, _), (1, _), (2, _)] := hl
  refine tn_ic (v := 0) X dX4_matchedRests_2 (by decide) ?_
  refine lv_istore X.1 X.2.1 dX4_matchedRests_3 hl (by decide) rfl (fun ls hl => ?_)
  replace hl : lv_has ls 5 [(4, _), (3, _), (0, _), (1, _), (2, _)] := hl
  have Lp : ∀ (k : Nat) (i : Nat), i + k = ν 7 4 → ∀ (ls : Array Slot) (H : Heap) (locs : List Loc), dM G ν H → dS G s.heap H locs → lv_has ls 5 [(0, .ref (ra G 7)), (1, .ref (ra G (22 + q))), (2, .ref (ra G (11 + r))), (3, .int (nI (ms (ν 9) (ν (22 + q) 2) (ν (11 + r)) i))), (4, .int (nI i))] → W p l e (rmD 1) s m args below meth c H locs 0 0 (MQ below (dQi G s.heap.size (fun x ν' => x = ms (ν 9) (ν (22 + q) 2) (ν (11 + r)) (ν 7 4) ∧ ν' = ν)) args s 0 0 (dA G s.heap.size)) (F0 m 5 ls []) := by
    intro k
    induction k with
    | zero =>
      intro i hi ls H locs hM hS hl
      refine lv_iload X.1 X.2.1 dX4_matchedRests_5 (lv_at hl 4 rfl) ?_
      refine lv_aload_n X.1 X.2.1 dX4_matchedRests_7 rfl (lv_at hl 0 rfl) ?_
      refine m_get (ci := 4) (C := RX4) (T := TX4) (N := 5) X hM inA4 (by decide) (dE_tray G _) rfl 4 (by decide) kl_X4_26 rfl rfl dX4_matchedRests_8 ?_
      refine tn_ge (tgt := 41) X dX4_matchedRests_11 (by decide) (by omega) (by omega) (fun h11 => ?_) (fun h11 => ?_)
      · refine lv_iload_n X.1 X.2.1 dX4_matchedRests_41 rfl (lv_at hl 3 rfl) ?_
        exact rI ⟨by rw [show i = ν 7 4 by omega], rfl⟩ X hM hS hret hlk dX4_matchedRests_42
      · exfalso; omega
    | succ k ih =>
      intro i hi ls H locs hM hS hl
      refine lv_iload X.1 X.2.1 dX4_matchedRests_5 (lv_at hl 4 rfl) ?_
      refine lv_aload_n X.1 X.2.1 dX4_matchedRests_7 rfl (lv_at hl 0 rfl) ?_
      refine m_get (ci := 4) (C := RX4) (T := TX4) (N := 5) X hM inA4 (by decide) (dE_tray G _) rfl 4 (by decide) kl_X4_26 rfl rfl dX4_matchedRests_8 ?_
      refine tn_ge (tgt := 41) X dX4_matchedRests_11 (by decide) (by omega) (by omega) (fun h11 => ?_) (fun h11 => ?_)
      · exfalso; omega
      · refine lv_aload_n X.1 X.2.1 dX4_matchedRests_14 rfl (lv_at hl 1 rfl) ?_
        refine lv_aload_n X.1 X.2.1 dX4_matchedRests_15 rfl (lv_at hl 0 rfl) ?_
        refine m_get (ci := 4) (C := RX4) (T := TX4) (N := 5) X hM inA4 (by decide) (dE_tray G _) rfl 1 (by decide) kl_X4_15 rfl rfl dX4_matchedRests_16 ?_
        refine lv_iload X.1 X.2.1 dX4_matchedRests_19 (lv_at hl 4 rfl) ?_
        refine m_iald X hM (by decide) (dE_tC G _) (by omega) (by decide) dX4_matchedRests_21 ?_
        refine kNI (As := [_]) X hM hS hl.1 (c_X0_isMatchedBy hq hcs (hct i (by omega))) (by omega) (dE_cou hq G _) rfl rfl kl_X4_60 mf_X0_isMatchedBy ⟨Nat.le_of_ble_eq_true rfl, Nat.le_of_ble_eq_true rfl⟩ ⟨Nat.zero_le _, Nat.zero_le _⟩ rfl (Nat.le_of_ble_eq_true rfl) dX4_matchedRests_22 (fun r22 ν22 H locs hp22 hM hS => ?_)
        obtain ⟨rfl, e22⟩ := hp22
        replace e22 := e22.symm
        subst e22
        refine tn_eq0 (tgt := 35) X dX4_matchedRests_25 (by decide) (by have := bt_le (ν (22 + q) 2) (ν 9 i); omega) (fun h25 => ?_) (fun h25 => ?_)
        · refine tn_inc (k := 4) (w := 1) X dX4_matchedRests_35 hl rfl (by decide) (by decide) rfl (fun ls hl => ?_)
          replace hl : lv_has ls 5 [(4, _), (0, _), (1, _), (2, _), (3, _)] := hl
          refine lv_goto (tgt := 5) X.1 X.2.1 dX4_matchedRests_38 (by decide) ?_
          have e : ms (ν 9) (ν (22 + q) 2) (ν (11 + r)) (i + 1) = _ := if_neg (by omega)
          exact ih (i + 1) (by omega) ls H locs hM hS (by rw [e]; exact (lv_sub hl [1, 2, 3, 4, 0] rfl))
        · refine lv_iload_n X.1 X.2.1 dX4_matchedRests_28 rfl (lv_at hl 3 rfl) ?_
          refine lv_aload_n X.1 X.2.1 dX4_matchedRests_29 rfl (lv_at hl 2 rfl) ?_
          refine lv_iload X.1 X.2.1 dX4_matchedRests_30 (lv_at hl 4 rfl) ?_
          refine m_iald X hM (by omega) (dE_row hr G _) (by omega) (by decide) dX4_matchedRests_32 ?_
          refine tn_add X dX4_matchedRests_33 ?_
          refine lv_istore_n X.1 X.2.1 dX4_matchedRests_34 rfl hl (by decide) rfl (fun ls hl => ?_)
          replace hl : lv_has ls 5 [(3, _), (0, _), (1, _), (2, _), (4, _)] := hl
          refine tn_inc (k := 4) (w := 1) X dX4_matchedRests_35 hl rfl (by decide) (by decide) rfl (fun ls hl => ?_)
          replace hl : lv_has ls 5 [(4, _), (3, _), (0, _), (1, _), (2, _)] := hl
          refine lv_goto (tgt := 5) X.1 X.2.1 dX4_matchedRests_38 (by decide) ?_
          have e : ms (ν 9) (ν (22 + q) 2) (ν (11 + r)) (i + 1) = _ := if_pos (by have := bt_le (ν (22 + q) 2) (ν 9 i); omega)
          exact ih (i + 1) (by omega) ls H locs hM hS (by rw [e]; exact (lv_sub hl [2, 3, 4, 1, 0] rfl))
  exact Lp (ν 7 4) 0 (by omega) ls _ _ hM hS (lv_sub hl [2, 3, 4, 1, 0] rfl)

set_option maxHeartbeats 4000000 in
set_option maxRecDepth 100000 in
theorem c_X4_restsInRow {l : Launch} {G : dG} {ν : Mm} {r : Nat} (hr : r < 9) (hn : ν 7 4 ≤ 60) : cI l yX4_restsInRow cX4_restsInRow 5 (some .int) 0 G [.ref (ra G 7), .int (nI r)] ν (fun x ν' => x = sm (ν (11 + r)) (ν 7 4) ∧ ν' = ν) := by
  refine cI_of (by decide +kernel) (Nat.le_of_ble_eq_true rfl) ?_
  intro p e s m args below meth c ls X hM hret hlk hl
  have hS : dS G s.heap s.heap [] := va_S.rf
  refine lv_aload_n X.1 X.2.1 dX4_restsInRow_0 rfl (lv_at hl 0 rfl) ?_
  refine m_get (ci := 4) (C := RX4) (T := TX4) (N := 5) X hM inA4 (by decide) (dE_tray G _) rfl 2 (by decide) kl_X4_20 rfl rfl dX4_restsInRow_1 ?_
  refine lv_iload_n X.1 X.2.1 dX4_restsInRow_4 rfl (lv_at hl 1 rfl) ?_
  refine m_aald 3 rfl X hM (by decide) (dE_tR G _) rfl hr (by decide) dX4_restsInRow_5 ?_
  refine lv_astore_n X.1 X.2.1 dX4_restsInRow_6 rfl hl (by decide) rfl (fun ls hl => ?_)
  replace hl : lv_has ls 5 [(2, _), (0, _), (1, _)] := hl
  refine tn_ic (v := 0) X dX4_restsInRow_7 (by decide) ?_
  refine lv_istore_n X.1 X.2.1 dX4_restsInRow_8 rfl hl (by decide) rfl (fun ls hl => ?_)
  replace hl : lv_has ls 5 [(3, _), (2, _), (0, _), (1, _)] := hl
  refine tn_ic (v := 0) X dX4_restsInRow_9 (by decide) ?_
  refine lv_istore X.1 X.2.1 dX4_restsInRow_10 hl (by decide) rfl (fun ls hl => ?_)
  replace hl : lv_has ls 5 [(4, _), (3, _), (2, _), (0, _), (1, _)] := hl
  have Lp : ∀ (k : Nat) (i : Nat), i + k = ν 7 4 → ∀ (ls : Array Slot) (H : Heap) (locs : List Loc), dM G ν H → dS G s.heap H locs → lv_has ls 5 [(0, .ref (ra G 7)), (2, .ref (ra G (11 + r))), (3, .int (nI (sm (ν (11 + r)) i))), (4, .int (nI i))] → W p l e (rmD 0) s m args below meth c H locs 0 0 (MQ below (dQi G s.heap.size (fun x ν' => x = sm (ν (11 + r)) (ν 7 4) ∧ ν' = ν)) args s 0 0 (dA G s.heap.size)) (F0 m 12 ls []) := by
    intro k
    induction k with
    | zero =>
      intro i hi ls H locs hM hS hl
      refine lv_iload X.1 X.2.1 dX4_restsInRow_12 (lv_at hl 3 rfl) ?_
      refine lv_aload_n X.1 X.2.1 dX4_restsInRow_14 rfl (lv_at hl 0 rfl) ?_
      refine m_get (ci := 4) (C := RX4) (T := TX4) (N := 5) X hM inA4 (by decide) (dE_tray G _) rfl 4 (by decide) kl_X4_26 rfl rfl dX4_restsInRow_15 ?_
      refine tn_ge (tgt := 34) X dX4_restsInRow_18 (by decide) (by omega) (by omega) (fun h18 => ?_) (fun h18 => ?_)
      · refine lv_iload_n X.1 X.2.1 dX4_restsInRow_34 rfl (lv_at hl 2 rfl) ?_
        exact rI ⟨by rw [show i = ν 7 4 by omega], rfl⟩ X hM hS hret hlk dX4_restsInRow_35
      · exfalso; omega
    | succ k ih =>
      intro i hi ls H locs hM hS hl
      refine lv_iload X.1 X.2.1 dX4_restsInRow_12 (lv_at hl 3 rfl) ?_
      refine lv_aload_n X.1 X.2.1 dX4_restsInRow_14 rfl (lv_at hl 0 rfl) ?_
      refine m_get (ci := 4) (C := RX4) (T := TX4) (N := 5) X hM inA4 (by decide) (dE_tray G _) rfl 4 (by decide) kl_X4_26 rfl rfl dX4_restsInRow_15 ?_
      refine tn_ge (tgt := 34) X dX4_restsInRow_18 (by decide) (by omega) (by omega) (fun h18 => ?_) (fun h18 => ?_)
      · exfalso; omega
      · refine lv_iload_n X.1 X.2.1 dX4_restsInRow_21 rfl (lv_at hl 2 rfl) ?_
        refine lv_aload_n X.1 X.2.1 dX4_restsInRow_22 rfl (lv_at hl 1 rfl) ?_
        refine lv_iload X.1 X.2.1 dX4_restsInRow_23 (lv_at hl 3 rfl) ?_
        refine m_iald X hM (by omega) (dE_row hr G _) (by omega) (by decide) dX4_restsInRow_25 ?_
        refine tn_add X dX4_restsInRow_26 ?_
        refine lv_istore_n X.1 X.2.1 dX4_restsInRow_27 rfl hl (by decide) rfl (fun ls hl => ?_)
        replace hl : lv_has ls 5 [(3, _), (0, _), (2, _), (4, _)] := hl
        refine tn_inc (k := 3) (w := 1) X dX4_restsInRow_28 hl rfl (by decide) (by decide) rfl (fun ls hl => ?_)
        replace hl : lv_has ls 5 [(4, _), (3, _), (0, _), (2, _)] := hl
        refine lv_goto (tgt := 12) X.1 X.2.1 dX4_restsInRow_31 (by decide) ?_
        exact ih (i + 1) (by omega) ls H locs hM hS (lv_sub hl [2, 3, 1, 0] rfl)
  exact Lp (ν 7 4) 0 (by omega) ls _ _ hM hS (lv_sub hl [3, 2, 1, 0] rfl)

set_option maxHeartbeats 4000000 in
set_option maxRecDepth 100000 in
theorem c_X4_takePercent {l : Launch} {G : dG} {ν : Mm} {q r : Nat} (hq : q < 8) (hr : r < 9) (hcs : ν (22 + q) 2 < 2 ^ 31) (hn : ν 7 4 ≤ 60) (hct : ∀ i, i < ν 7 4 → ν 9 i < 32) (hv : ν (22 + q) 1 ≤ 100) (hf : ∀ i, i < ν 7 4 → ν (11 + r) i ≤ 10000) : cV l yX4_takePercent cX4_takePercent 4 1 G [.ref (ra G 7), .ref (ra G (22 + q)), .ref (ra G (11 + r))] ν (fun ν' => off1 (11 + r) ν ν' ∧ ν' (11 + r) = pcF (ν 7 4) (ν 9) (ν (22 + q) 2) (ν (22 + q) 1) (ν (11 + r))) := by
  refine cV_of (by decide +kernel) (Nat.le_of_ble_eq_true rfl) ?_
  intro p e s m args below meth c ls X hM hret hlk hl
  have hS : dS G s.heap s.heap [] := va_S.rf
  refine tn_ic (v := 0) X dX4_takePercent_0 (by decide) ?_
  refine lv_istore_n X.1 X.2.1 dX4_takePercent_1 rfl hl (by decide) rfl (fun ls hl => ?_)
  replace hl : lv_has ls 4 [(3, _), (0, _), (1, _), (2, _)] := hl
  have Lp : ∀ (k : Nat) (i : Nat) (μ : Mm), i + k = ν 7 4 → off1 (11 + r) ν μ → μ (11 + r) = shF (fun x => x * ν (22 + q) 1 / 100) i (ν 9) (ν (22 + q) 2) (ν (11 + r)) → ∀ (ls : Array Slot) (H : Heap) (locs : List Loc), dM G μ H → dS G s.heap H locs → lv_has ls 4 [(0, .ref (ra G 7)), (1, .ref (ra G (22 + q))), (2, .ref (ra G (11 + r))), (3, .int (nI i))] → W p l e (rmD 1) s m args below meth c H locs 0 0 (MQ below (dQv G s.heap.size (fun ν' => off1 (11 + r) ν ν' ∧ ν' (11 + r) = pcF (ν 7 4) (ν 9) (ν (22 + q) 2) (ν (22 + q) 1) (ν (11 + r)))) args s 0 0 (dA G s.heap.size)) (F0 m 2 ls []) := by
    intro k
    induction k with
    | zero =>
      intro i μ hi hof hro ls H locs hM hS hl
      have e7 : μ 7 = ν 7 := hof 7 (by omega)
      have e9 : μ 9 = ν 9 := hof 9 (by omega)
      have eqq : μ (22 + q) = ν (22 + q) := hof (22 + q) (by omega)
      have e74 : μ 7 4 = ν 7 4 := by rw [e7]
      refine lv_iload_n X.1 X.2.1 dX4_takePercent_2 rfl (lv_at hl 3 rfl) ?_
      refine lv_aload_n X.1 X.2.1 dX4_takePercent_3 rfl (lv_at hl 0 rfl) ?_
      refine m_get (ci := 4) (C := RX4) (T := TX4) (N := 5) X hM inA4 (by decide) (dE_tray G _) rfl 4 (by decide) kl_X4_26 rfl rfl dX4_takePercent_4 ?_
      refine tn_ge (tgt := 46) X dX4_takePercent_7 (by decide) (by omega) (by omega) (fun h7 => ?_) (fun h7 => ?_)
      · exact rV ⟨hof, by rw [hro, show i = ν 7 4 by omega]; rfl⟩ X hM hS hret hlk dX4_takePercent_46
      · exfalso; omega
    | succ k ih =>
      intro i μ hi hof hro ls H locs hM hS hl
      have e7 : μ 7 = ν 7 := hof 7 (by omega)
      have e9 : μ 9 = ν 9 := hof 9 (by omega)
      have eqq : μ (22 + q) = ν (22 + q) := hof (22 + q) (by omega)
      have e74 : μ 7 4 = ν 7 4 := by rw [e7]
      refine lv_iload_n X.1 X.2.1 dX4_takePercent_2 rfl (lv_at hl 3 rfl) ?_
      refine lv_aload_n X.1 X.2.1 dX4_takePercent_3 rfl (lv_at hl 0 rfl) ?_
      refine m_get (ci := 4) (C := RX4) (T := TX4) (N := 5) X hM inA4 (by decide) (dE_tray G _) rfl 4 (by decide) kl_X4_26 rfl rfl dX4_takePercent_4 ?_
      refine tn_ge (tgt := 46) X dX4_takePercent_7 (by decide) (by omega) (by omega) (fun h7 => ?_) (fun h7 => ?_)
      · exfalso; omega
      · refine lv_aload_n X.1 X.2.1 dX4_takePercent_10 rfl (lv_at hl 1 rfl) ?_
        refine lv_aload_n X.1 X.2.1 dX4_takePercent_11 rfl (lv_at hl 0 rfl) ?_
        refine m_get (ci := 4) (C := RX4) (T := TX4) (N := 5) X hM inA4 (by decide) (dE_tray G _) rfl 1 (by decide) kl_X4_15 rfl rfl dX4_takePercent_12 ?_
        refine lv_iload_n X.1 X.2.1 dX4_takePercent_15 rfl (lv_at hl 3 rfl) ?_
        refine m_iald X hM (by decide) (dE_tC G _) (by omega) (by decide) dX4_takePercent_16 ?_
        refine kNI (As := [_]) X hM hS hl.1 (c_X0_isMatchedBy hq (by rw [eqq]; exact hcs) (by rw [e9]; exact hct i (by omega))) (by omega) (dE_cou hq G _) rfl rfl kl_X4_60 mf_X0_isMatchedBy ⟨Nat.le_of_ble_eq_true rfl, Nat.le_of_ble_eq_true rfl⟩ ⟨Nat.zero_le _, Nat.zero_le _⟩ rfl (Nat.le_of_ble_eq_true rfl) dX4_takePercent_17 (fun r17 ν17 H locs hp17 hM hS => ?_)
        obtain ⟨rfl, e17⟩ := hp17
        replace e17 := e17.symm
        subst e17
        refine tn_eq0 (tgt := 40) X dX4_takePercent_20 (by decide) (by have := bt_le (μ (22 + q) 2) (μ 9 i); omega) (fun h20 => ?_) (fun h20 => ?_)
        · refine tn_inc (k := 3) (w := 1) X dX4_takePercent_40 hl rfl (by decide) (by decide) rfl (fun ls hl => ?_)
          replace hl : lv_has ls 4 [(3, _), (0, _), (1, _), (2, _)] := hl
          refine lv_goto (tgt := 2) X.1 X.2.1 dX4_takePercent_43 (by decide) ?_
          exact ih (i + 1) μ (by omega) hof (by rw [hro, shF_skip (by rw [← eqq, ← e9]; omega)]) ls H locs hM hS (lv_sub hl [1, 2, 3, 0] rfl)
        · have hfi : μ (11 + r) i = ν (11 + r) i := by rw [hro]; exact shF_at
          have hx : μ (11 + r) i * μ (22 + q) 1 ≤ 10000 * 100 := Nat.mul_le_mul (by rw [hfi]; exact hf i (by omega)) (by rw [eqq]; exact hv)
          have hy : μ (11 + r) i * μ (22 + q) 1 / 100 ≤ μ (11 + r) i := pct_le (by rw [eqq]; exact hv)
          refine lv_aload_n X.1 X.2.1 dX4_takePercent_23 rfl (lv_at hl 2 rfl) ?_
          refine lv_iload_n X.1 X.2.1 dX4_takePercent_24 rfl (lv_at hl 3 rfl) ?_
          refine lv_dup2_11 X.1 X.2.1 dX4_takePercent_25 rfl rfl ?_
          refine m_iald X hM (by omega) (dE_row hr G _) (by omega) (by decide) dX4_takePercent_26 ?_
          refine lv_aload_n X.1 X.2.1 dX4_takePercent_27 rfl (lv_at hl 2 rfl) ?_
          refine lv_iload_n X.1 X.2.1 dX4_takePercent_28 rfl (lv_at hl 3 rfl) ?_
          refine m_iald X hM (by omega) (dE_row hr G _) (by omega) (by decide) dX4_takePercent_29 ?_
          refine lv_aload_n X.1 X.2.1 dX4_takePercent_30 rfl (lv_at hl 1 rfl) ?_
          refine m_getN (ci := 0) (C := RX0) (T := TX0) (N := 6) X hM inA0 (by omega) (dE_cou hq G _) rfl 1 (by decide) kl_X4_64 rfl rfl dX4_takePercent_31 ?_
          refine tn_mul X dX4_takePercent_34 ?_
          refine tn_bi (v := 100) X dX4_takePercent_35 (by decide) ?_
          refine tn_div X dX4_takePercent_37 (by omega) (by decide) (by decide) ?_
          refine tn_sub X dX4_takePercent_38 hy ?_
          refine m_iast X hM hS (by omega) (fun _ => (dE_row hr G _)) (by omega) (by decide) dX4_takePercent_39 (fun H locs hM hS => ?_)
          refine tn_inc (k := 3) (w := 1) X dX4_takePercent_40 hl rfl (by decide) (by decide) rfl (fun ls hl => ?_)
          replace hl : lv_has ls 4 [(3, _), (0, _), (1, _), (2, _)] := hl
          refine lv_goto (tgt := 2) X.1 X.2.1 dX4_takePercent_43 (by decide) ?_
          have hb1 : bt (ν (22 + q) 2) (ν 9 i) = 1 := by have := bt_le (μ (22 + q) 2) (μ 9 i); rw [← eqq, ← e9]; omega
          exact ih (i + 1) _ (by omega) hof.up (by rw [up2_row, hfi, eqq, hro]; exact shF_step (sh := (fun x => x * ν (22 + q) 1 / 100)) hb1) ls H locs hM hS (lv_sub hl [1, 2, 3, 0] rfl)
  exact Lp (ν 7 4) 0 ν (by omega) (off1_rf _ _) shF_0.symm ls _ _ hM hS (lv_sub hl [1, 2, 3, 0] rfl)

set_option maxHeartbeats 4000000 in
set_option maxRecDepth 100000 in
theorem c_X4_takeOnes {l : Launch} {G : dG} {ν : Mm} {q r x : Nat} (hq : q < 8) (hr : r < 9) (hcs : ν (22 + q) 2 < 2 ^ 31) (hn : ν 7 4 ≤ 60) (hct : ∀ i, i < ν 7 4 → ν 9 i < 32) (hx : x < 2 ^ 31) (hf : ∀ i, i < ν 7 4 → ν (11 + r) i ≤ 10000) : cV l yX4_takeOnes cX4_takeOnes 6 1 G [.ref (ra G 7), .ref (ra G (22 + q)), .ref (ra G (11 + r)), .int (nI x)] ν (fun ν' => off1 (11 + r) ν ν' ∧ ν' (11 + r) = (onS (ν 9) (ν (22 + q) 2) (ν 7 4) (x, ν (11 + r))).2) := by
  refine cV_of (by decide +kernel) (Nat.le_of_ble_eq_true rfl) ?_
  intro p e s m args below meth c ls X hM hret hlk hl
  have hS : dS G s.heap s.heap [] := va_S.rf
  refine lv_iload_n X.1 X.2.1 dX4_takeOnes_0 rfl (lv_at hl 3 rfl) ?_
  refine lv_istore X.1 X.2.1 dX4_takeOnes_1 hl (by decide) rfl (fun ls hl => ?_)
  replace hl : lv_has ls 6 [(4, _), (0, _), (1, _), (2, _), (3, _)] := hl
  refine tn_ic (v := 0) X dX4_takeOnes_3 (by decide) ?_
  refine lv_istore X.1 X.2.1 dX4_takeOnes_4 hl (by decide) rfl (fun ls hl => ?_)
  replace hl : lv_has ls 6 [(5, _), (4, _), (0, _), (1, _), (2, _), (3, _)] := hl
  have Lp : ∀ (k : Nat) (i : Nat) (μ : Mm), i + k = ν 7 4 → off1 (11 + r) ν μ → μ (11 + r) = (onS (ν 9) (ν (22 + q) 2) i (x, ν (11 + r))).2 → ∀ (ls : Array Slot) (H : Heap) (locs : List Loc), dM G μ H → dS G s.heap H locs → lv_has ls 6 [(0, .ref (ra G 7)), (1, .ref (ra G (22 + q))), (2, .ref (ra G (11 + r))), (4, .int (nI (onS (ν 9) (ν (22 + q) 2) i (x, ν (11 + r))).1)), (5, .int (nI i))] → W p l e (rmD 1) s m args below meth c H locs 0 0 (MQ below (dQv G s.heap.size (fun ν' => off1 (11 + r) ν ν' ∧ ν' (11 + r) = (onS (ν 9) (ν (22 + q) 2) (ν 7 4) (x, ν (11 + r))).2)) args s 0 0 (dA G s.heap.size)) (F0 m 6 ls []) := by
    intro k
    induction k with
    | zero =>
      intro i μ hi hof hro ls H locs hM hS hl
      have e7 : μ 7 = ν 7 := hof 7 (by omega)
      have e9 : μ 9 = ν 9 := hof 9 (by omega)
      have eqq : μ (22 + q) = ν (22 + q) := hof (22 + q) (by omega)
      have e74 : μ 7 4 = ν 7 4 := by rw [e7]
      have hole := onS_le (ct := ν 9) (cs := ν (22 + q) 2) (x := (x, ν (11 + r))) i
      have hl1 : (onS (ν 9) (ν (22 + q) 2) i (x, ν (11 + r))).1 ≤ x := hole.1
      refine lv_iload X.1 X.2.1 dX4_takeOnes_6 (lv_at hl 4 rfl) ?_
      refine lv_aload_n X.1 X.2.1 dX4_takeOnes_8 rfl (lv_at hl 0 rfl) ?_
      refine m_get (ci := 4) (C := RX4) (T := TX4) (N := 5) X hM inA4 (by decide) (dE_tray G _) rfl 4 (by decide) kl_X4_26 rfl rfl dX4_takeOnes_9 ?_
      refine tn_ge (tgt := 58) X dX4_takeOnes_12 (by decide) (by omega) (by omega) (fun h12 => ?_) (fun h12 => ?_)
      · exact rV ⟨hof, by rw [hro, show i = ν 7 4 by omega]⟩ X hM hS hret hlk dX4_takeOnes_58
      · exfalso; omega
    | succ k ih =>
      intro i μ hi hof hro ls H locs hM hS hl
      have e7 : μ 7 = ν 7 := hof 7 (by omega)
      have e9 : μ 9 = ν 9 := hof 9 (by omega)
      have eqq : μ (22 + q) = ν (22 + q) := hof (22 + q) (by omega)
      have e74 : μ 7 4 = ν 7 4 := by rw [e7]
      have hole := onS_le (ct := ν 9) (cs := ν (22 + q) 2) (x := (x, ν (11 + r))) i
      have hl1 : (onS (ν 9) (ν (22 + q) 2) i (x, ν (11 + r))).1 ≤ x := hole.1
      refine lv_iload X.1 X.2.1 dX4_takeOnes_6 (lv_at hl 4 rfl) ?_
      refine lv_aload_n X.1 X.2.1 dX4_takeOnes_8 rfl (lv_at hl 0 rfl) ?_
      refine m_get (ci := 4) (C := RX4) (T := TX4) (N := 5) X hM inA4 (by decide) (dE_tray G _) rfl 4 (by decide) kl_X4_26 rfl rfl dX4_takeOnes_9 ?_
      refine tn_ge (tgt := 58) X dX4_takeOnes_12 (by decide) (by omega) (by omega) (fun h12 => ?_) (fun h12 => ?_)
      · exfalso; omega
      · refine lv_iload X.1 X.2.1 dX4_takeOnes_15 (lv_at hl 3 rfl) ?_
        refine tn_le0 (tgt := 58) X dX4_takeOnes_17 (by decide) (by omega) (fun h17 => ?_) (fun h17 => ?_)
        · exact rV ⟨hof, by rw [hro, show ν 7 4 = i + (ν 7 4 - i) by omega, onS_stop h17]⟩ X hM hS hret hlk dX4_takeOnes_58
        · have hrb : μ (11 + r) i < 2 ^ 31 := by rw [hro]; have h1 := hole.2 i; have h2 := hf i (by omega); exact Nat.lt_of_le_of_lt h1 (by show ν (11 + r) i < 2 ^ 31; omega)
          refine lv_aload_n X.1 X.2.1 dX4_takeOnes_20 rfl (lv_at hl 2 rfl) ?_
          refine lv_iload X.1 X.2.1 dX4_takeOnes_21 (lv_at hl 4 rfl) ?_
          refine m_iald X hM (by omega) (dE_row hr G _) (by omega) (by decide) dX4_takeOnes_23 ?_
          refine tn_le0 (tgt := 52) X dX4_takeOnes_24 (by decide) hrb (fun h24 => ?_) (fun h24 => ?_)
          · refine tn_inc (k := 4) (w := 1) X dX4_takeOnes_52 hl rfl (by decide) (by decide) rfl (fun ls hl => ?_)
            replace hl : lv_has ls 6 [(5, _), (0, _), (1, _), (2, _), (4, _)] := hl
            refine lv_goto (tgt := 6) X.1 X.2.1 dX4_takeOnes_55 (by decide) ?_
            have e : onS (ν 9) (ν (22 + q) 2) (i + 1) (x, ν (11 + r)) = _ := onS_n (fun hh => by obtain ⟨q1, q2, q3⟩ := hh; rw [hro] at h24; omega)
            exact ih (i + 1) μ (by omega) hof (by rw [e]; exact hro) ls H locs hM hS (by rw [e]; exact (lv_sub hl [1, 2, 3, 4, 0] rfl))
          · refine lv_aload_n X.1 X.2.1 dX4_takeOnes_27 rfl (lv_at hl 1 rfl) ?_
            refine lv_aload_n X.1 X.2.1 dX4_takeOnes_28 rfl (lv_at hl 0 rfl) ?_
            refine m_get (ci := 4) (C := RX4) (T := TX4) (N := 5) X hM inA4 (by decide) (dE_tray G _) rfl 1 (by decide) kl_X4_15 rfl rfl dX4_takeOnes_29 ?_
            refine lv_iload X.1 X.2.1 dX4_takeOnes_32 (lv_at hl 4 rfl) ?_
            refine m_iald X hM (by decide) (dE_tC G _) (by omega) (by decide) dX4_takeOnes_34 ?_
            refine kNI (As := [_]) X hM hS hl.1 (c_X0_isMatchedBy hq (by rw [eqq]; exact hcs) (by rw [e9]; exact hct i (by omega))) (by omega) (dE_cou hq G _) rfl rfl kl_X4_60 mf_X0_isMatchedBy ⟨Nat.le_of_ble_eq_true rfl, Nat.le_of_ble_eq_true rfl⟩ ⟨Nat.zero_le _, Nat.zero_le _⟩ rfl (Nat.le_of_ble_eq_true rfl) dX4_takeOnes_35 (fun r35 ν35 H locs hp35 hM hS => ?_)
            obtain ⟨rfl, e35⟩ := hp35
            replace e35 := e35.symm
            subst e35
            refine tn_eq0 (tgt := 52) X dX4_takeOnes_38 (by decide) (by have := bt_le (μ (22 + q) 2) (μ 9 i); omega) (fun h38 => ?_) (fun h38 => ?_)
            · refine tn_inc (k := 4) (w := 1) X dX4_takeOnes_52 hl rfl (by decide) (by decide) rfl (fun ls hl => ?_)
              replace hl : lv_has ls 6 [(5, _), (0, _), (1, _), (2, _), (4, _)] := hl
              refine lv_goto (tgt := 6) X.1 X.2.1 dX4_takeOnes_55 (by decide) ?_
              have e : onS (ν 9) (ν (22 + q) 2) (i + 1) (x, ν (11 + r)) = _ := onS_n (fun hh => by obtain ⟨q1, q2, q3⟩ := hh; rw [eqq, e9] at h38; omega)
              exact ih (i + 1) μ (by omega) hof (by rw [e]; exact hro) ls H locs hM hS (by rw [e]; exact (lv_sub hl [1, 2, 3, 4, 0] rfl))
            · refine lv_aload_n X.1 X.2.1 dX4_takeOnes_41 rfl (lv_at hl 2 rfl) ?_
              refine lv_iload X.1 X.2.1 dX4_takeOnes_42 (lv_at hl 4 rfl) ?_
              refine lv_dup2_11 X.1 X.2.1 dX4_takeOnes_44 rfl rfl ?_
              refine m_iald X hM (by omega) (dE_row hr G _) (by omega) (by decide) dX4_takeOnes_45 ?_
              refine tn_ic (v := 1) X dX4_takeOnes_46 (by decide) ?_
              refine tn_sub X dX4_takeOnes_47 (by omega) ?_
              refine m_iast X hM hS (by omega) (fun _ => (dE_row hr G _)) (by omega) (by decide) dX4_takeOnes_48 (fun H locs hM hS => ?_)
              refine tn_dec (k := 3) X dX4_takeOnes_49 hl rfl (by omega) (by decide) rfl (fun ls hl => ?_)
              replace hl : lv_has ls 6 [(4, _), (0, _), (1, _), (2, _), (5, _)] := hl
              refine tn_inc (k := 4) (w := 1) X dX4_takeOnes_52 hl rfl (by decide) (by decide) rfl (fun ls hl => ?_)
              replace hl : lv_has ls 6 [(5, _), (4, _), (0, _), (1, _), (2, _)] := hl
              refine lv_goto (tgt := 6) X.1 X.2.1 dX4_takeOnes_55 (by decide) ?_
              have hb1 : bt (ν (22 + q) 2) (ν 9 i) = 1 := by have := bt_le (μ (22 + q) 2) (μ 9 i); rw [← eqq, ← e9]; omega
              have e : onS (ν 9) (ν (22 + q) 2) (i + 1) (x, ν (11 + r)) = _ := onS_y ⟨h17, by rw [← hro]; exact h24, hb1⟩
              exact ih (i + 1) _ (by omega) hof.up (by rw [up2_row, e, hro]) ls H locs hM hS (by rw [e]; exact (lv_sub hl [2, 3, 4, 1, 0] rfl))
  exact Lp (ν 7 4) 0 ν (by omega) (off1_rf _ _) rfl ls _ _ hM hS (lv_sub hl [2, 3, 4, 1, 0] rfl)

set_option maxHeartbeats 4000000 in
set_option maxRecDepth 100000 in
theorem c_X4_takeAmount {l : Launch} {G : dG} {ν : Mm} {q r : Nat} (hq : q < 8) (hr : r < 9) (hcs : ν (22 + q) 2 < 2 ^ 31) (hn : ν 7 4 ≤ 60) (hct : ∀ i, i < ν 7 4 → ν 9 i < 32) (hv : ν (22 + q) 1 ≤ 100000) (hf : ∀ i, i < ν 7 4 → ν (11 + r) i ≤ 10000) : cV l yX4_takeAmount cX4_takeAmount 8 2 G [.ref (ra G 7), .ref (ra G (22 + q)), .ref (ra G (11 + r))] ν (fun ν' => off1 (11 + r) ν ν' ∧ ν' (11 + r) = taF (ν 7 4) (ν 9) (ν (22 + q) 2) (ν (22 + q) 1) (ν (11 + r))) := by
  refine cV_of (by decide +kernel) (Nat.le_of_ble_eq_true rfl) ?_
  intro p e s m args below meth c ls X hM hret hlk hl
  have hS : dS G s.heap s.heap [] := va_S.rf
  have hSb : (ms (ν 9) (ν (22 + q) 2) (ν (11 + r)) (ν 7 4)) ≤ 600000 := Nat.le_trans (ms_le hf) (Nat.mul_le_mul_right 10000 hn)
  refine lv_aload_n X.1 X.2.1 dX4_takeAmount_0 rfl (lv_at hl 0 rfl) ?_
  refine lv_aload_n X.1 X.2.1 dX4_takeAmount_1 rfl (lv_at hl 1 rfl) ?_
  refine lv_aload_n X.1 X.2.1 dX4_takeAmount_2 rfl (lv_at hl 2 rfl) ?_
  refine kVI (As := [_, _]) X hM hS hl.1 (c_X4_matchedRests hq hr hcs hn hct) (by decide) (dE_tray G _) rfl rfl kl_X4_67 mf_X4_matchedRests ⟨Nat.le_of_ble_eq_true rfl, Nat.le_of_ble_eq_true rfl⟩ ⟨Nat.zero_le _, Nat.zero_le _⟩ rfl (Nat.le_of_ble_eq_true rfl) dX4_takeAmount_3 (fun r3 ν3 H locs hp3 hM hS => ?_)
  obtain ⟨rfl, e3⟩ := hp3
  replace e3 := e3.symm
  subst e3
  refine lv_istore_n X.1 X.2.1 dX4_takeAmount_6 rfl hl (by decide) rfl (fun ls hl => ?_)
  replace hl : lv_has ls 8 [(3, _), (0, _), (1, _), (2, _)] := hl
  refine lv_iload_n X.1 X.2.1 dX4_takeAmount_7 rfl (lv_at hl 0 rfl) ?_
  refine tn_gt0 (tgt := 12) X dX4_takeAmount_8 (by decide) (by omega) (fun h8 => ?_) (fun h8 => ?_)
  · refine lv_iload_n X.1 X.2.1 dX4_takeAmount_12 rfl (lv_at hl 0 rfl) ?_
    refine lv_aload_n X.1 X.2.1 dX4_takeAmount_13 rfl (lv_at hl 2 rfl) ?_
    refine m_getN (ci := 0) (C := RX0) (T := TX0) (N := 6) X hM inA0 (by omega) (dE_cou hq G _) rfl 1 (by decide) kl_X4_64 rfl rfl dX4_takeAmount_14 ?_
    refine tn_min X hl.1 kl_X4_71 (Nat.le_of_ble_eq_true rfl) (Nat.le_of_ble_eq_true rfl) (Nat.zero_le _) (Nat.zero_le _) (by omega) (by omega) dX4_takeAmount_17 ?_
    refine lv_istore X.1 X.2.1 dX4_takeAmount_20 hl (by decide) rfl (fun ls hl => ?_)
    replace hl : lv_has ls 8 [(4, _), (3, _), (0, _), (1, _), (2, _)] := hl
    refine lv_iload X.1 X.2.1 dX4_takeAmount_22 (lv_at hl 0 rfl) ?_
    refine lv_istore X.1 X.2.1 dX4_takeAmount_24 hl (by decide) rfl (fun ls hl => ?_)
    replace hl : lv_has ls 8 [(5, _), (4, _), (3, _), (0, _), (1, _), (2, _)] := hl
    refine tn_ic (v := 0) X dX4_takeAmount_26 (by decide) ?_
    refine lv_istore X.1 X.2.1 dX4_takeAmount_27 hl (by decide) rfl (fun ls hl => ?_)
    replace hl : lv_has ls 8 [(6, _), (5, _), (4, _), (3, _), (0, _), (1, _), (2, _)] := hl
    have Lp : ∀ (k : Nat) (i : Nat) (μ : Mm), i + k = ν 7 4 → off1 (11 + r) ν μ → μ (11 + r) = shF (fun x => x * (min (ms (ν 9) (ν (22 + q) 2) (ν (11 + r)) (ν 7 4)) (ν (22 + q) 1)) / (ms (ν 9) (ν (22 + q) 2) (ν (11 + r)) (ν 7 4))) i (ν 9) (ν (22 + q) 2) (ν (11 + r)) → ∀ (ls : Array Slot) (H : Heap) (locs : List Loc), dM G μ H → dS G s.heap H locs → lv_has ls 8 [(0, .ref (ra G 7)), (1, .ref (ra G (22 + q))), (2, .ref (ra G (11 + r))), (3, .int (nI (ms (ν 9) (ν (22 + q) 2) (ν (11 + r)) (ν 7 4)))), (4, .int (nI (min (ms (ν 9) (ν (22 + q) 2) (ν (11 + r)) (ν 7 4)) (ν (22 + q) 1)))), (5, .int (nI ((min (ms (ν 9) (ν (22 + q) 2) (ν (11 + r)) (ν 7 4)) (ν (22 + q) 1)) - us (fun x => x * (min (ms (ν 9) (ν (22 + q) 2) (ν (11 + r)) (ν 7 4)) (ν (22 + q) 1)) / (ms (ν 9) (ν (22 + q) 2) (ν (11 + r)) (ν 7 4))) (ν 9) (ν (22 + q) 2) (ν (11 + r)) i))), (6, .int (nI i))] → W p l e (rmD 2) s m args below meth c H locs 0 0 (MQ below (dQv G s.heap.size (fun ν' => off1 (11 + r) ν ν' ∧ ν' (11 + r) = taF (ν 7 4) (ν 9) (ν (22 + q) 2) (ν (22 + q) 1) (ν (11 + r)))) args s 0 0 (dA G s.heap.size)) (F0 m 29 ls []) := by
      intro k
      induction k with
      | zero =>
        intro i μ hi hof hro ls H locs hM hS hl
        have e7 : μ 7 = ν 7 := hof 7 (by omega)
        have e9 : μ 9 = ν 9 := hof 9 (by omega)
        have eqq : μ (22 + q) = ν (22 + q) := hof (22 + q) (by omega)
        have e74 : μ 7 4 = ν 7 4 := by rw [e7]
        refine lv_iload X.1 X.2.1 dX4_takeAmount_29 (lv_at hl 6 rfl) ?_
        refine lv_aload_n X.1 X.2.1 dX4_takeAmount_31 rfl (lv_at hl 0 rfl) ?_
        refine m_get (ci := 4) (C := RX4) (T := TX4) (N := 5) X hM inA4 (by decide) (dE_tray G _) rfl 4 (by decide) kl_X4_26 rfl rfl dX4_takeAmount_32 ?_
        refine tn_ge (tgt := 89) X dX4_takeAmount_35 (by decide) (by omega) (by omega) (fun h35 => ?_) (fun h35 => ?_)
        · refine lv_aload_n X.1 X.2.1 dX4_takeAmount_89 rfl (lv_at hl 0 rfl) ?_
          refine lv_aload_n X.1 X.2.1 dX4_takeAmount_90 rfl (lv_at hl 1 rfl) ?_
          refine lv_aload_n X.1 X.2.1 dX4_takeAmount_91 rfl (lv_at hl 2 rfl) ?_
          refine lv_iload X.1 X.2.1 dX4_takeAmount_92 (lv_at hl 5 rfl) ?_
          refine kVV (As := [_, _, _]) X hM hS hl.1 (c_X4_takeOnes (ν := μ) hq hr (by rw [eqq]; exact hcs) (by rw [e7]; exact hn) (by rw [e7, e9]; exact hct) (by omega) (fun j hj => by rw [hro]; unfold shF; have := hf j (by rw [← e7]; exact hj); split <;> omega)) (by decide) (dE_tray G _) rfl rfl kl_X4_77 mf_X4_takeOnes ⟨Nat.le_of_ble_eq_true rfl, Nat.le_of_ble_eq_true rfl⟩ ⟨Nat.zero_le _, Nat.zero_le _⟩ rfl (Nat.le_of_ble_eq_true rfl) dX4_takeAmount_94 (fun ν94 H locs hp94 hM hS => ?_)
          exact rV ⟨hof.trans hp94.1, by rw [hp94.2, hro, eqq, e7, e9, show i = ν 7 4 by omega]; unfold taF; rw [if_neg (by omega)]⟩ X hM hS hret hlk dX4_takeAmount_97
        · exfalso; omega
      | succ k ih =>
        intro i μ hi hof hro ls H locs hM hS hl
        have e7 : μ 7 = ν 7 := hof 7 (by omega)
        have e9 : μ 9 = ν 9 := hof 9 (by omega)
        have eqq : μ (22 + q) = ν (22 + q) := hof (22 + q) (by omega)
        have e74 : μ 7 4 = ν 7 4 := by rw [e7]
        refine lv_iload X.1 X.2.1 dX4_takeAmount_29 (lv_at hl 6 rfl) ?_
        refine lv_aload_n X.1 X.2.1 dX4_takeAmount_31 rfl (lv_at hl 0 rfl) ?_
        refine m_get (ci := 4) (C := RX4) (T := TX4) (N := 5) X hM inA4 (by decide) (dE_tray G _) rfl 4 (by decide) kl_X4_26 rfl rfl dX4_takeAmount_32 ?_
        refine tn_ge (tgt := 89) X dX4_takeAmount_35 (by decide) (by omega) (by omega) (fun h35 => ?_) (fun h35 => ?_)
        · exfalso; omega
        · refine lv_aload_n X.1 X.2.1 dX4_takeAmount_38 rfl (lv_at hl 1 rfl) ?_
          refine lv_aload_n X.1 X.2.1 dX4_takeAmount_39 rfl (lv_at hl 0 rfl) ?_
          refine m_get (ci := 4) (C := RX4) (T := TX4) (N := 5) X hM inA4 (by decide) (dE_tray G _) rfl 1 (by decide) kl_X4_15 rfl rfl dX4_takeAmount_40 ?_
          refine lv_iload X.1 X.2.1 dX4_takeAmount_43 (lv_at hl 6 rfl) ?_
          refine m_iald X hM (by decide) (dE_tC G _) (by omega) (by decide) dX4_takeAmount_45 ?_
          refine kNI (As := [_]) X hM hS hl.1 (c_X0_isMatchedBy hq (by rw [eqq]; exact hcs) (by rw [e9]; exact hct i (by omega))) (by omega) (dE_cou hq G _) rfl rfl kl_X4_60 mf_X0_isMatchedBy ⟨Nat.le_of_ble_eq_true rfl, Nat.le_of_ble_eq_true rfl⟩ ⟨Nat.zero_le _, Nat.zero_le _⟩ rfl (Nat.le_of_ble_eq_true rfl) dX4_takeAmount_46 (fun r46 ν46 H locs hp46 hM hS => ?_)
          obtain ⟨rfl, e46⟩ := hp46
          replace e46 := e46.symm
          subst e46
          refine tn_eq0 (tgt := 83) X dX4_takeAmount_49 (by decide) (by have := bt_le (μ (22 + q) 2) (μ 9 i); omega) (fun h49 => ?_) (fun h49 => ?_)
          · refine tn_inc (k := 6) (w := 1) X dX4_takeAmount_83 hl rfl (by decide) (by decide) rfl (fun ls hl => ?_)
            replace hl : lv_has ls 8 [(6, _), (0, _), (1, _), (2, _), (3, _), (4, _), (5, _)] := hl
            refine lv_goto (tgt := 29) X.1 X.2.1 dX4_takeAmount_86 (by decide) ?_
            have e : us (fun x => x * (min (ms (ν 9) (ν (22 + q) 2) (ν (11 + r)) (ν 7 4)) (ν (22 + q) 1)) / (ms (ν 9) (ν (22 + q) 2) (ν (11 + r)) (ν 7 4))) (ν 9) (ν (22 + q) 2) (ν (11 + r)) (i + 1) = _ := if_neg (by rw [← eqq, ← e9]; omega)
            exact ih (i + 1) μ (by omega) hof (by rw [hro, shF_skip (by rw [← eqq, ← e9]; omega)]) ls H locs hM hS (by rw [e]; exact (lv_sub hl [1, 2, 3, 4, 5, 6, 0] rfl))
          · have hfi : μ (11 + r) i = ν (11 + r) i := by rw [hro]; exact shF_at
            have hb1 : bt (ν (22 + q) 2) (ν 9 i) = 1 := by have := bt_le (μ (22 + q) 2) (μ 9 i); rw [← eqq, ← e9]; omega
            have hfi2 : μ (11 + r) i ≤ 10000 := by rw [hfi]; exact hf i (by omega)
            have hx : μ (11 + r) i * (min (ms (ν 9) (ν (22 + q) 2) (ν (11 + r)) (ν 7 4)) (ν (22 + q) 1)) ≤ 10000 * 100000 := Nat.mul_le_mul hfi2 (by omega)
            have hy : μ (11 + r) i * (min (ms (ν 9) (ν (22 + q) 2) (ν (11 + r)) (ν 7 4)) (ν (22 + q) 1)) / (ms (ν 9) (ν (22 + q) 2) (ν (11 + r)) (ν 7 4)) ≤ μ (11 + r) i := shr_le (Nat.min_le_left _ _)
            have hz : μ (11 + r) i * (min (ms (ν 9) (ν (22 + q) 2) (ν (11 + r)) (ν 7 4)) (ν (22 + q) 1)) / (ms (ν 9) (ν (22 + q) 2) (ν (11 + r)) (ν 7 4)) ≤ (min (ms (ν 9) (ν (22 + q) 2) (ν (11 + r)) (ν 7 4)) (ν (22 + q) 1)) - us (fun x => x * (min (ms (ν 9) (ν (22 + q) 2) (ν (11 + r)) (ν 7 4)) (ν (22 + q) 1)) / (ms (ν 9) (ν (22 + q) 2) (ν (11 + r)) (ν 7 4))) (ν 9) (ν (22 + q) 2) (ν (11 + r)) i := by have := us_A1 (A := (min (ms (ν 9) (ν (22 + q) 2) (ν (11 + r)) (ν 7 4)) (ν (22 + q) 1))) (show i < ν 7 4 by omega) h8 hb1; rw [hfi]; omega
            refine lv_aload_n X.1 X.2.1 dX4_takeAmount_52 rfl (lv_at hl 2 rfl) ?_
            refine lv_iload X.1 X.2.1 dX4_takeAmount_53 (lv_at hl 6 rfl) ?_
            refine m_iald X hM (by omega) (dE_row hr G _) (by omega) (by decide) dX4_takeAmount_55 ?_
            refine tn_i2l X dX4_takeAmount_56 (by omega) ?_
            refine lv_iload X.1 X.2.1 dX4_takeAmount_57 (lv_at hl 4 rfl) ?_
            refine tn_i2l X dX4_takeAmount_59 (by omega) ?_
            refine tn_lmul X dX4_takeAmount_60 ?_
            refine lv_iload_n X.1 X.2.1 dX4_takeAmount_61 rfl (lv_at hl 3 rfl) ?_
            refine tn_i2l X dX4_takeAmount_62 (by omega) ?_
            refine tn_ldiv X dX4_takeAmount_63 (by omega) h8 (by omega) ?_
            refine tn_l2i X dX4_takeAmount_64 ?_
            refine lv_istore X.1 X.2.1 dX4_takeAmount_65 hl (by decide) rfl (fun ls hl => ?_)
            replace hl : lv_has ls 8 [(7, _), (0, _), (1, _), (2, _), (3, _), (4, _), (5, _), (6, _)] := hl
            refine lv_aload_n X.1 X.2.1 dX4_takeAmount_67 rfl (lv_at hl 3 rfl) ?_
            refine lv_iload X.1 X.2.1 dX4_takeAmount_68 (lv_at hl 7 rfl) ?_
            refine lv_dup2_11 X.1 X.2.1 dX4_takeAmount_70 rfl rfl ?_
            refine m_iald X hM (by omega) (dE_row hr G _) (by omega) (by decide) dX4_takeAmount_71 ?_
            refine lv_iload X.1 X.2.1 dX4_takeAmount_72 (lv_at hl 0 rfl) ?_
            refine tn_sub X dX4_takeAmount_74 hy ?_
            refine m_iast X hM hS (by omega) (fun _ => (dE_row hr G _)) (by omega) (by decide) dX4_takeAmount_75 (fun H locs hM hS => ?_)
            refine lv_iload X.1 X.2.1 dX4_takeAmount_76 (lv_at hl 6 rfl) ?_
            refine lv_iload X.1 X.2.1 dX4_takeAmount_78 (lv_at hl 0 rfl) ?_
            refine tn_sub X dX4_takeAmount_80 hz ?_
            refine lv_istore X.1 X.2.1 dX4_takeAmount_81 hl (by decide) rfl (fun ls hl => ?_)
            replace hl : lv_has ls 8 [(5, _), (7, _), (0, _), (1, _), (2, _), (3, _), (4, _), (6, _)] := hl
            refine tn_inc (k := 7) (w := 1) X dX4_takeAmount_83 hl rfl (by decide) (by decide) rfl (fun ls hl => ?_)
            replace hl : lv_has ls 8 [(6, _), (5, _), (7, _), (0, _), (1, _), (2, _), (3, _), (4, _)] := hl
            refine lv_goto (tgt := 29) X.1 X.2.1 dX4_takeAmount_86 (by decide) ?_
            have e : us (fun x => x * (min (ms (ν 9) (ν (22 + q) 2) (ν (11 + r)) (ν 7 4)) (ν (22 + q) 1)) / (ms (ν 9) (ν (22 + q) 2) (ν (11 + r)) (ν 7 4))) (ν 9) (ν (22 + q) 2) (ν (11 + r)) (i + 1) = _ := if_pos hb1
            rw [hfi] at hl hM
            exact ih (i + 1) _ (by omega) hof.up (by rw [up2_row, hro]; exact shF_step (sh := (fun x => x * (min (ms (ν 9) (ν (22 + q) 2) (ν (11 + r)) (ν 7 4)) (ν (22 + q) 1)) / (ms (ν 9) (ν (22 + q) 2) (ν (11 + r)) (ν 7 4)))) hb1) ls H locs hM hS (by rw [e, ← Nat.sub_sub]; exact (lv_sub hl [3, 4, 5, 6, 7, 1, 0] rfl))
    exact Lp (ν 7 4) 0 ν (by omega) (off1_rf _ _) shF_0.symm ls _ _ hM hS (lv_sub hl [4, 5, 6, 3, 2, 1, 0] rfl)
  · exact rV ⟨off1_rf _ _, by unfold taF; rw [if_pos h8]⟩ X hM hS hret hlk dX4_takeAmount_11
