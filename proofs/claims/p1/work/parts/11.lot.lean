/-! ===== Lot, Coupon ===== -/
set_option maxHeartbeats 4000000 in
set_option maxRecDepth 100000 in
theorem c_X1_pricesIn {l : Launch} {G : dG} {ν : Mm} {L cs : Nat} (hL : lotB L) (hcs : cs < 2 ^ 31) (hC : ∀ a, a < 10 → ν (L + 2) a < 32) : cI l yX1_pricesIn cX1_pricesIn 4 (some .int) 0 G [.ref (ra G L), .int (nI cs)] ν (fun r ν' => r = pin ν L cs 10 ∧ ν' = ν) := by
  refine cI_of (by decide +kernel) (Nat.le_of_ble_eq_true rfl) ?_
  intro p e s m args below meth c ls X hM hret hlk hl
  have hS : dS G s.heap s.heap [] := va_S.rf
  refine tn_ic (v := 0) X dX1_pricesIn_0 (by decide) ?_
  refine lv_istore_n X.1 X.2.1 dX1_pricesIn_1 rfl hl (by decide) rfl (fun ls hl => ?_)
  replace hl : lv_has ls 4 [(2, _), (0, _), (1, _)] := hl
  refine tn_ic (v := 0) X dX1_pricesIn_2 (by decide) ?_
  refine lv_istore_n X.1 X.2.1 dX1_pricesIn_3 rfl hl (by decide) rfl (fun ls hl => ?_)
  replace hl : lv_has ls 4 [(3, _), (2, _), (0, _), (1, _)] := hl
  have Lp : ∀ (k : Nat) (a : Nat), a + k = 10 → ∀ (ls : Array Slot) (H : Heap) (locs : List Loc), dM G ν H → dS G s.heap H locs → lv_has ls 4 [(0, .ref (ra G L)), (1, .int (nI cs)), (2, .int (nI (pin ν L cs a))), (3, .int (nI a))] → W p l e (rmD 0) s m args below meth c H locs 0 0 (MQ below (dQi G s.heap.size (fun r ν' => r = pin ν L cs 10 ∧ ν' = ν)) args s 0 0 (dA G s.heap.size)) (F0 m 4 ls []) := by
    intro k
    induction k with
    | zero =>
      intro a ha ls H locs hM hS hl
      refine lv_iload_n X.1 X.2.1 dX1_pricesIn_4 rfl (lv_at hl 3 rfl) ?_
      refine tn_bi (v := 10) X dX1_pricesIn_5 (by decide) ?_
      refine tn_ge (tgt := 45) X dX1_pricesIn_7 (by decide) (by omega) (by omega) (fun h7 => ?_) (fun h7 => ?_)
      · refine lv_iload_n X.1 X.2.1 dX1_pricesIn_45 rfl (lv_at hl 2 rfl) ?_
        exact rI ⟨by rw [show a = 10 by omega], rfl⟩ X hM hS hret hlk dX1_pricesIn_46
      · exfalso; omega
    | succ k ih =>
      intro a ha ls H locs hM hS hl
      have hc := hC a (by omega)
      refine lv_iload_n X.1 X.2.1 dX1_pricesIn_4 rfl (lv_at hl 3 rfl) ?_
      refine tn_bi (v := 10) X dX1_pricesIn_5 (by decide) ?_
      refine tn_ge (tgt := 45) X dX1_pricesIn_7 (by decide) (by omega) (by omega) (fun h7 => ?_) (fun h7 => ?_)
      · exfalso; omega
      · refine lv_iload_n X.1 X.2.1 dX1_pricesIn_10 rfl (lv_at hl 1 rfl) ?_
        refine lv_aload_n X.1 X.2.1 dX1_pricesIn_11 rfl (lv_at hl 0 rfl) ?_
        refine m_get (ci := 1) (C := RX1) (T := TX1) (N := 3) X hM inA1 (by have := lotB.lt hL; omega) (dE_lot hL G _) rfl 1 (by decide) kl_X1_15 rfl rfl dX1_pricesIn_12 ?_
        refine lv_iload_n X.1 X.2.1 dX1_pricesIn_15 rfl (lv_at hl 3 rfl) ?_
        refine m_iald X hM (by have := lotB.lt hL; omega) (dE_lotA hL (by decide) (by decide) G _) (by omega) (by decide) dX1_pricesIn_16 ?_
        refine tn_shr X dX1_pricesIn_17 (by omega) (by omega) ?_
        refine tn_ic (v := 1) X dX1_pricesIn_18 (by decide) ?_
        refine tn_and1 X dX1_pricesIn_19 ?_
        refine tn_eq0 (tgt := 39) X dX1_pricesIn_20 (by decide) (by omega) (fun h20 => ?_) (fun h20 => ?_)
        · refine tn_inc (k := 3) (w := 1) X dX1_pricesIn_39 hl rfl (by decide) (by decide) rfl (fun ls hl => ?_)
          replace hl : lv_has ls 4 [(3, _), (0, _), (1, _), (2, _)] := hl
          refine lv_goto (tgt := 4) X.1 X.2.1 dX1_pricesIn_42 (by decide) ?_
          have e : pin ν L cs (a + 1) = _ := if_neg (by unfold bt; omega)
          exact ih (a + 1) (by omega) ls H locs hM hS (by rw [e]; exact (lv_sub hl [1, 2, 3, 0] rfl))
        · refine lv_iload_n X.1 X.2.1 dX1_pricesIn_23 rfl (lv_at hl 2 rfl) ?_
          refine lv_aload_n X.1 X.2.1 dX1_pricesIn_24 rfl (lv_at hl 0 rfl) ?_
          refine m_get (ci := 1) (C := RX1) (T := TX1) (N := 3) X hM inA1 (by have := lotB.lt hL; omega) (dE_lot hL G _) rfl 0 (by decide) kl_X1_9 rfl rfl dX1_pricesIn_25 ?_
          refine lv_iload_n X.1 X.2.1 dX1_pricesIn_28 rfl (lv_at hl 3 rfl) ?_
          refine m_iald X hM (by have := lotB.lt hL; omega) (dE_lotA hL (by decide) (by decide) G _) (by omega) (by decide) dX1_pricesIn_29 ?_
          refine lv_aload_n X.1 X.2.1 dX1_pricesIn_30 rfl (lv_at hl 0 rfl) ?_
          refine m_get (ci := 1) (C := RX1) (T := TX1) (N := 3) X hM inA1 (by have := lotB.lt hL; omega) (dE_lot hL G _) rfl 2 (by decide) kl_X1_18 rfl rfl dX1_pricesIn_31 ?_
          refine lv_iload_n X.1 X.2.1 dX1_pricesIn_34 rfl (lv_at hl 3 rfl) ?_
          refine m_iald X hM (by have := lotB.lt hL; omega) (dE_lotA hL (by decide) (by decide) G _) (by omega) (by decide) dX1_pricesIn_35 ?_
          refine tn_mul X dX1_pricesIn_36 ?_
          refine tn_add X dX1_pricesIn_37 ?_
          refine lv_istore_n X.1 X.2.1 dX1_pricesIn_38 rfl hl (by decide) rfl (fun ls hl => ?_)
          replace hl : lv_has ls 4 [(2, _), (0, _), (1, _), (3, _)] := hl
          refine tn_inc (k := 3) (w := 1) X dX1_pricesIn_39 hl rfl (by decide) (by decide) rfl (fun ls hl => ?_)
          replace hl : lv_has ls 4 [(3, _), (2, _), (0, _), (1, _)] := hl
          refine lv_goto (tgt := 4) X.1 X.2.1 dX1_pricesIn_42 (by decide) ?_
          have e : pin ν L cs (a + 1) = _ := if_pos (by unfold bt; omega)
          exact ih (a + 1) (by omega) ls H locs hM hS (by rw [e]; exact (lv_sub hl [2, 3, 1, 0] rfl))
  exact Lp 10 0 (by omega) ls _ _ hM hS (lv_sub hl [2, 3, 1, 0] rfl)

set_option maxHeartbeats 4000000 in
set_option maxRecDepth 100000 in
theorem c_X1_countOfPieces {l : Launch} {G : dG} {ν : Mm} {L : Nat} (hL : lotB L) : cI l yX1_countOfPieces cX1_countOfPieces 3 (some .int) 0 G [.ref (ra G L)] ν (fun r ν' => r = cnt ν L 10 ∧ ν' = ν) := by
  refine cI_of (by decide +kernel) (Nat.le_of_ble_eq_true rfl) ?_
  intro p e s m args below meth c ls X hM hret hlk hl
  have hS : dS G s.heap s.heap [] := va_S.rf
  refine tn_ic (v := 0) X dX1_countOfPieces_0 (by decide) ?_
  refine lv_istore_n X.1 X.2.1 dX1_countOfPieces_1 rfl hl (by decide) rfl (fun ls hl => ?_)
  replace hl : lv_has ls 3 [(1, _), (0, _)] := hl
  refine tn_ic (v := 0) X dX1_countOfPieces_2 (by decide) ?_
  refine lv_istore_n X.1 X.2.1 dX1_countOfPieces_3 rfl hl (by decide) rfl (fun ls hl => ?_)
  replace hl : lv_has ls 3 [(2, _), (1, _), (0, _)] := hl
  have Lp : ∀ (k : Nat) (a : Nat), a + k = 10 → ∀ (ls : Array Slot) (H : Heap) (locs : List Loc), dM G ν H → dS G s.heap H locs → lv_has ls 3 [(0, .ref (ra G L)), (1, .int (nI (cnt ν L a))), (2, .int (nI a))] → W p l e (rmD 0) s m args below meth c H locs 0 0 (MQ below (dQi G s.heap.size (fun r ν' => r = cnt ν L 10 ∧ ν' = ν)) args s 0 0 (dA G s.heap.size)) (F0 m 4 ls []) := by
    intro k
    induction k with
    | zero =>
      intro a ha ls H locs hM hS hl
      refine lv_iload_n X.1 X.2.1 dX1_countOfPieces_4 rfl (lv_at hl 2 rfl) ?_
      refine tn_bi (v := 10) X dX1_countOfPieces_5 (by decide) ?_
      refine tn_ge (tgt := 25) X dX1_countOfPieces_7 (by decide) (by omega) (by omega) (fun h7 => ?_) (fun h7 => ?_)
      · refine lv_iload_n X.1 X.2.1 dX1_countOfPieces_25 rfl (lv_at hl 1 rfl) ?_
        exact rI ⟨by rw [show a = 10 by omega], rfl⟩ X hM hS hret hlk dX1_countOfPieces_26
      · exfalso; omega
    | succ k ih =>
      intro a ha ls H locs hM hS hl
      refine lv_iload_n X.1 X.2.1 dX1_countOfPieces_4 rfl (lv_at hl 2 rfl) ?_
      refine tn_bi (v := 10) X dX1_countOfPieces_5 (by decide) ?_
      refine tn_ge (tgt := 25) X dX1_countOfPieces_7 (by decide) (by omega) (by omega) (fun h7 => ?_) (fun h7 => ?_)
      · exfalso; omega
      · refine lv_iload_n X.1 X.2.1 dX1_countOfPieces_10 rfl (lv_at hl 1 rfl) ?_
        refine lv_aload_n X.1 X.2.1 dX1_countOfPieces_11 rfl (lv_at hl 0 rfl) ?_
        refine m_get (ci := 1) (C := RX1) (T := TX1) (N := 3) X hM inA1 (by have := lotB.lt hL; omega) (dE_lot hL G _) rfl 2 (by decide) kl_X1_18 rfl rfl dX1_countOfPieces_12 ?_
        refine lv_iload_n X.1 X.2.1 dX1_countOfPieces_15 rfl (lv_at hl 2 rfl) ?_
        refine m_iald X hM (by have := lotB.lt hL; omega) (dE_lotA hL (by decide) (by decide) G _) (by omega) (by decide) dX1_countOfPieces_16 ?_
        refine tn_add X dX1_countOfPieces_17 ?_
        refine lv_istore_n X.1 X.2.1 dX1_countOfPieces_18 rfl hl (by decide) rfl (fun ls hl => ?_)
        replace hl : lv_has ls 3 [(1, _), (0, _), (2, _)] := hl
        refine tn_inc (k := 2) (w := 1) X dX1_countOfPieces_19 hl rfl (by decide) (by decide) rfl (fun ls hl => ?_)
        replace hl : lv_has ls 3 [(2, _), (1, _), (0, _)] := hl
        refine lv_goto (tgt := 4) X.1 X.2.1 dX1_countOfPieces_22 (by decide) ?_
        exact ih (a + 1) (by omega) ls H locs hM hS (lv_sub hl [2, 1, 0] rfl)
  exact Lp 10 0 (by omega) ls _ _ hM hS (lv_sub hl [2, 1, 0] rfl)

set_option maxHeartbeats 4000000 in
set_option maxRecDepth 100000 in
theorem c_X0_isMatchedBy {l : Launch} {G : dG} {ν : Mm} {q cat : Nat} (hq : q < 8) (hcs : ν (22 + q) 2 < 2 ^ 31) (hcat : cat < 32) : cI l yX0_isMatchedBy cX0_isMatchedBy 2 (some .boolean) 0 G [.ref (ra G (22 + q)), .int (nI cat)] ν (fun r ν' => r = bt (ν (22 + q) 2) cat ∧ ν' = ν) := by
  refine cI_of (by decide +kernel) (Nat.le_of_ble_eq_true rfl) ?_
  intro p e s m args below meth c ls X hM hret hlk hl
  have hS : dS G s.heap s.heap [] := va_S.rf
  refine lv_aload_n X.1 X.2.1 dX0_isMatchedBy_0 rfl (lv_at hl 0 rfl) ?_
  refine m_get (ci := 0) (C := RX0) (T := TX0) (N := 6) X hM inA0 (by omega) (dE_cou hq G _) rfl 2 (by decide) kl_X0_18 rfl rfl dX0_isMatchedBy_1 ?_
  refine lv_iload_n X.1 X.2.1 dX0_isMatchedBy_4 rfl (lv_at hl 1 rfl) ?_
  refine tn_shr X dX0_isMatchedBy_5 (by omega) (by omega) ?_
  refine tn_ic (v := 1) X dX0_isMatchedBy_6 (by decide) ?_
  refine tn_and1 X dX0_isMatchedBy_7 ?_
  refine tn_eq0 (tgt := 15) X dX0_isMatchedBy_8 (by decide) (by omega) (fun h8 => ?_) (fun h8 => ?_)
  · refine tn_ic (v := 0) X dX0_isMatchedBy_15 (by decide) ?_
    exact rZ ⟨by unfold bt; omega, rfl⟩ X hM hS hret hlk (by omega) dX0_isMatchedBy_16
  · refine tn_ic (v := 1) X dX0_isMatchedBy_11 (by decide) ?_
    refine lv_goto (tgt := 16) X.1 X.2.1 dX0_isMatchedBy_12 (by decide) ?_
    exact rZ ⟨by unfold bt; omega, rfl⟩ X hM hS hret hlk (by omega) dX0_isMatchedBy_16

set_option maxHeartbeats 4000000 in
set_option maxRecDepth 100000 in
theorem c_X0_isReachedBy {l : Launch} {G : dG} {ν : Mm} {q L : Nat} (hq : q < 8) (hL : lotB L) (hcs : ν (22 + q) 2 < 2 ^ 31) (hC : ∀ a, a < 10 → ν (L + 2) a < 32) (hb : pin ν L (ν (22 + q) 2) 10 < 2 ^ 31) (hm : ν (22 + q) 3 < 2 ^ 31) : cI l yX0_isReachedBy cX0_isReachedBy 3 (some .boolean) 1 G [.ref (ra G (22 + q)), .ref (ra G L)] ν (fun r ν' => r = (if 0 < pin ν L (ν (22 + q) 2) 10 ∧ ν (22 + q) 3 ≤ pin ν L (ν (22 + q) 2) 10 then 1 else 0) ∧ ν' = ν) := by
  refine cI_of (by decide +kernel) (Nat.le_of_ble_eq_true rfl) ?_
  intro p e s m args below meth c ls X hM hret hlk hl
  have hS : dS G s.heap s.heap [] := va_S.rf
  refine lv_aload_n X.1 X.2.1 dX0_isReachedBy_0 rfl (lv_at hl 1 rfl) ?_
  refine lv_aload_n X.1 X.2.1 dX0_isReachedBy_1 rfl (lv_at hl 0 rfl) ?_
  refine m_get (ci := 0) (C := RX0) (T := TX0) (N := 6) X hM inA0 (by omega) (dE_cou hq G _) rfl 2 (by decide) kl_X0_18 rfl rfl dX0_isReachedBy_2 ?_
  refine kNI (As := [_]) X hM hS hl.1 (c_X1_pricesIn hL hcs hC) (by have := lotB.lt hL; omega) (dE_lot hL G _) rfl rfl kl_X0_30 mf_X1_pricesIn ⟨Nat.le_of_ble_eq_true rfl, Nat.le_of_ble_eq_true rfl⟩ ⟨Nat.zero_le _, Nat.zero_le _⟩ rfl (Nat.le_of_ble_eq_true rfl) dX0_isReachedBy_5 (fun r5 ν5 H locs hp5 hM hS => ?_)
  obtain ⟨rfl, e5⟩ := hp5
  replace e5 := e5.symm
  subst e5
  refine lv_istore_n X.1 X.2.1 dX0_isReachedBy_8 rfl hl (by decide) rfl (fun ls hl => ?_)
  replace hl : lv_has ls 3 [(2, _), (0, _), (1, _)] := hl
  refine lv_iload_n X.1 X.2.1 dX0_isReachedBy_9 rfl (lv_at hl 0 rfl) ?_
  refine tn_le0 (tgt := 25) X dX0_isReachedBy_10 (by decide) (by omega) (fun h10 => ?_) (fun h10 => ?_)
  · refine tn_ic (v := 0) X dX0_isReachedBy_25 (by decide) ?_
    exact rZ ⟨(if_neg (by omega)).symm, rfl⟩ X hM hS hret hlk (by omega) dX0_isReachedBy_26
  · refine lv_iload_n X.1 X.2.1 dX0_isReachedBy_13 rfl (lv_at hl 0 rfl) ?_
    refine lv_aload_n X.1 X.2.1 dX0_isReachedBy_14 rfl (lv_at hl 1 rfl) ?_
    refine m_get (ci := 0) (C := RX0) (T := TX0) (N := 6) X hM inA0 (by omega) (dE_cou hq G _) rfl 3 (by decide) kl_X0_21 rfl rfl dX0_isReachedBy_15 ?_
    refine tn_lt (tgt := 25) X dX0_isReachedBy_18 (by decide) (by omega) (by omega) (fun h18 => ?_) (fun h18 => ?_)
    · refine tn_ic (v := 0) X dX0_isReachedBy_25 (by decide) ?_
      exact rZ ⟨(if_neg (by omega)).symm, rfl⟩ X hM hS hret hlk (by omega) dX0_isReachedBy_26
    · refine tn_ic (v := 1) X dX0_isReachedBy_21 (by decide) ?_
      refine lv_goto (tgt := 26) X.1 X.2.1 dX0_isReachedBy_22 (by decide) ?_
      exact rZ ⟨(if_pos (by omega)).symm, rfl⟩ X hM hS hret hlk (by omega) dX0_isReachedBy_26

set_option maxHeartbeats 4000000 in
set_option maxRecDepth 100000 in
theorem c_X0_isUsableFor {l : Launch} {G : dG} {ν : Mm} {q L : Nat} (hq : q < 8) (hL : lotB L) (hcs : ν (22 + q) 2 < 2 ^ 31) (hC : ∀ a, a < 10 → ν (L + 2) a < 32) (hb : pin ν L (ν (22 + q) 2) 10 < 2 ^ 31) (hm : ν (22 + q) 3 < 2 ^ 31) (hu : ν (22 + q) 5 < 2 ^ 31) : cI l yX0_isUsableFor cX0_isUsableFor 2 (some .boolean) 2 G [.ref (ra G (22 + q)), .ref (ra G L)] ν (fun r ν' => r = (if 0 < ν (22 + q) 5 ∧ 0 < pin ν L (ν (22 + q) 2) 10 ∧ ν (22 + q) 3 ≤ pin ν L (ν (22 + q) 2) 10 then 1 else 0) ∧ ν' = ν) := by
  refine cI_of (by decide +kernel) (Nat.le_of_ble_eq_true rfl) ?_
  intro p e s m args below meth c ls X hM hret hlk hl
  have hS : dS G s.heap s.heap [] := va_S.rf
  refine lv_aload_n X.1 X.2.1 dX0_isUsableFor_0 rfl (lv_at hl 0 rfl) ?_
  refine m_get (ci := 0) (C := RX0) (T := TX0) (N := 6) X hM inA0 (by omega) (dE_cou hq G _) rfl 5 (by decide) kl_X0_27 rfl rfl dX0_isUsableFor_1 ?_
  refine tn_le0 (tgt := 19) X dX0_isUsableFor_4 (by decide) (by omega) (fun h4 => ?_) (fun h4 => ?_)
  · refine tn_ic (v := 0) X dX0_isUsableFor_19 (by decide) ?_
    exact rZ ⟨by split at * <;> first | rfl | (exfalso; omega) | simp_all, rfl⟩ X hM hS hret hlk (by omega) dX0_isUsableFor_20
  · refine lv_aload_n X.1 X.2.1 dX0_isUsableFor_7 rfl (lv_at hl 0 rfl) ?_
    refine lv_aload_n X.1 X.2.1 dX0_isUsableFor_8 rfl (lv_at hl 1 rfl) ?_
    refine kVI (As := [_]) X hM hS hl.1 (c_X0_isReachedBy hq hL hcs hC hb hm) (by omega) (dE_cou hq G _) rfl rfl kl_X0_36 mf_X0_isReachedBy ⟨Nat.le_of_ble_eq_true rfl, Nat.le_of_ble_eq_true rfl⟩ ⟨Nat.zero_le _, Nat.zero_le _⟩ rfl (Nat.le_of_ble_eq_true rfl) dX0_isUsableFor_9 (fun r9 ν9 H locs hp9 hM hS => ?_)
    obtain ⟨rfl, e9⟩ := hp9
    replace e9 := e9.symm
    subst e9
    refine tn_eq0 (tgt := 19) X dX0_isUsableFor_12 (by decide) (by split <;> omega) (fun h12 => ?_) (fun h12 => ?_)
    · refine tn_ic (v := 0) X dX0_isUsableFor_19 (by decide) ?_
      exact rZ ⟨by split at * <;> first | rfl | (exfalso; omega) | simp_all, rfl⟩ X hM hS hret hlk (by omega) dX0_isUsableFor_20
    · refine tn_ic (v := 1) X dX0_isUsableFor_15 (by decide) ?_
      refine lv_goto (tgt := 20) X.1 X.2.1 dX0_isUsableFor_16 (by decide) ?_
      exact rZ ⟨by split at * <;> first | rfl | (exfalso; omega) | simp_all, rfl⟩ X hM hS hret hlk (by omega) dX0_isUsableFor_20
