/-! ===== CouponDesk: sets and the fee ===== -/
set_option maxHeartbeats 4000000 in
set_option maxRecDepth 100000 in
theorem c_X5_contains {l : Launch} {G : dG} {ν : Mm} {st k : Nat} (hs : st < 2 ^ 31) (hk : k < 32) : cI l yX5_contains cX5_contains 2 (some .boolean) 0 G [.int (nI st), .int (nI k)] ν (fun r ν' => r = bt st k ∧ ν' = ν) := by
  refine cI_of (by decide +kernel) (Nat.le_of_ble_eq_true rfl) ?_
  intro p e s m args below meth c ls X hM hret hlk hl
  have hS : dS G s.heap s.heap [] := va_S.rf
  refine lv_iload_n X.1 X.2.1 dX5_contains_0 rfl (lv_at hl 0 rfl) ?_
  refine lv_iload_n X.1 X.2.1 dX5_contains_1 rfl (lv_at hl 1 rfl) ?_
  refine tn_shr X dX5_contains_2 (by omega) (by omega) ?_
  refine tn_ic (v := 1) X dX5_contains_3 (by decide) ?_
  refine tn_and1 X dX5_contains_4 ?_
  refine tn_eq0 (tgt := 12) X dX5_contains_5 (by decide) (by omega) (fun h5 => ?_) (fun h5 => ?_)
  · refine tn_ic (v := 0) X dX5_contains_12 (by decide) ?_
    exact rZ ⟨by unfold bt; omega, rfl⟩ X hM hS hret hlk (by omega) dX5_contains_13
  · refine tn_ic (v := 1) X dX5_contains_8 (by decide) ?_
    refine lv_goto (tgt := 13) X.1 X.2.1 dX5_contains_9 (by decide) ?_
    exact rZ ⟨by unfold bt; omega, rfl⟩ X hM hS hret hlk (by omega) dX5_contains_13

set_option maxHeartbeats 4000000 in
set_option maxRecDepth 100000 in
theorem c_X5_isGroupFree {l : Launch} {G : dG} {ν : Mm} {q st : Nat} (hW : WD ν) (hq : q < 8) (hs : st < 2 ^ 31) : cI l yX5_isGroupFree cX5_isGroupFree 5 (some .boolean) 1 G [.ref (ra G 0), .int (nI q), .int (nI st)] ν (fun r ν' => r = (if gf ν q st = true then 1 else 0) ∧ ν' = ν) := by
  refine cI_of (by decide +kernel) (Nat.le_of_ble_eq_true rfl) ?_
  intro p e s m args below meth c ls X hM hret hlk hl
  have hS : dS G s.heap s.heap [] := va_S.rf
  have hnc := hW.nc
  refine lv_aload_n X.1 X.2.1 dX5_isGroupFree_0 rfl (lv_at hl 0 rfl) ?_
  refine m_get (ci := 5) (C := RX5) (T := TX5) (N := 10) X hM inA5 (by decide) (dE_desk G _) rfl 1 (by decide) kl_X5_18 rfl rfl dX5_isGroupFree_1 ?_
  refine lv_iload_n X.1 X.2.1 dX5_isGroupFree_4 rfl (lv_at hl 1 rfl) ?_
  refine m_aald 1 rfl X hM (by decide) (dE_coupons G _) rfl (by omega) (by decide) dX5_isGroupFree_5 ?_
  refine m_getN (ci := 0) (C := RX0) (T := TX0) (N := 6) X hM inA0 (by omega) (dE_cou (by omega) G _) rfl 4 (by decide) kl_X5_255 rfl rfl dX5_isGroupFree_6 ?_
  refine lv_istore_n X.1 X.2.1 dX5_isGroupFree_9 rfl hl (by decide) rfl (fun ls hl => ?_)
  replace hl : lv_has ls 5 [(3, _), (0, _), (1, _), (2, _)] := hl
  refine lv_iload_n X.1 X.2.1 dX5_isGroupFree_10 rfl (lv_at hl 0 rfl) ?_
  refine tn_ne0 (tgt := 16) X dX5_isGroupFree_11 (by decide) (hW.gr hq) (fun h11 => ?_) (fun h11 => ?_)
  · refine tn_ic (v := 0) X dX5_isGroupFree_16 (by decide) ?_
    refine lv_istore X.1 X.2.1 dX5_isGroupFree_17 hl (by decide) rfl (fun ls hl => ?_)
    replace hl : lv_has ls 5 [(4, _), (3, _), (0, _), (1, _), (2, _)] := hl
    have Lp : ∀ (k : Nat) (j : Nat), j + k = ν 0 6 → grF ν st (ν (22 + q) 4) j = true → ∀ (ls : Array Slot) (H : Heap) (locs : List Loc), dM G ν H → dS G s.heap H locs → lv_has ls 5 [(0, .ref (ra G 0)), (2, .int (nI st)), (3, .int (nI (ν (22 + q) 4))), (4, .int (nI j))] → W p l e (rmD 1) s m args below meth c H locs 0 0 (MQ below (dQi G s.heap.size (fun r ν' => r = (if gf ν q st = true then 1 else 0) ∧ ν' = ν)) args s 0 0 (dA G s.heap.size)) (F0 m 19 ls []) := by
      intro k
      induction k with
      | zero =>
        intro j hj hg ls H locs hM hS hl
        refine lv_iload X.1 X.2.1 dX5_isGroupFree_19 (lv_at hl 3 rfl) ?_
        refine lv_aload_n X.1 X.2.1 dX5_isGroupFree_21 rfl (lv_at hl 0 rfl) ?_
        refine m_get (ci := 5) (C := RX5) (T := TX5) (N := 10) X hM inA5 (by decide) (dE_desk G _) rfl 6 (by decide) kl_X5_46 rfl rfl dX5_isGroupFree_22 ?_
        refine tn_ge (tgt := 59) X dX5_isGroupFree_25 (by decide) (by omega) (by omega) (fun h25 => ?_) (fun h25 => ?_)
        · refine tn_ic (v := 1) X dX5_isGroupFree_59 (by decide) ?_
          exact rZ ⟨(if_pos (by unfold gf; rw [show ν 0 6 = j by omega, hg]; simp)).symm, rfl⟩ X hM hS hret hlk (by omega) dX5_isGroupFree_60
        · exfalso; omega
      | succ k ih =>
        intro j hj hg ls H locs hM hS hl
        refine lv_iload X.1 X.2.1 dX5_isGroupFree_19 (lv_at hl 3 rfl) ?_
        refine lv_aload_n X.1 X.2.1 dX5_isGroupFree_21 rfl (lv_at hl 0 rfl) ?_
        refine m_get (ci := 5) (C := RX5) (T := TX5) (N := 10) X hM inA5 (by decide) (dE_desk G _) rfl 6 (by decide) kl_X5_46 rfl rfl dX5_isGroupFree_22 ?_
        refine tn_ge (tgt := 59) X dX5_isGroupFree_25 (by decide) (by omega) (by omega) (fun h25 => ?_) (fun h25 => ?_)
        · exfalso; omega
        · refine lv_iload_n X.1 X.2.1 dX5_isGroupFree_28 rfl (lv_at hl 1 rfl) ?_
          refine lv_iload X.1 X.2.1 dX5_isGroupFree_29 (lv_at hl 3 rfl) ?_
          refine kSI (As := [_, _]) X hM hS hl.1 (c_X5_contains hs (by omega)) kl_X5_249 mf_X5_contains ⟨Nat.le_of_ble_eq_true rfl, Nat.le_of_ble_eq_true rfl⟩ ⟨Nat.zero_le _, Nat.zero_le _⟩ rfl (Nat.le_of_ble_eq_true rfl) dX5_isGroupFree_31 (fun r31 ν31 H locs hp31 hM hS => ?_)
          obtain ⟨rfl, e31⟩ := hp31
          replace e31 := e31.symm
          subst e31
          refine tn_eq0 (tgt := 53) X dX5_isGroupFree_34 (by decide) (by have := bt_le st j; omega) (fun h34 => ?_) (fun h34 => ?_)
          · refine tn_inc (k := 3) (w := 1) X dX5_isGroupFree_53 hl rfl (by decide) (by decide) rfl (fun ls hl => ?_)
            replace hl : lv_has ls 5 [(4, _), (0, _), (2, _), (3, _)] := hl
            refine lv_goto (tgt := 19) X.1 X.2.1 dX5_isGroupFree_56 (by decide) ?_
            exact ih (j + 1) (by omega) (by simp [grF, hg, h34]) ls H locs hM hS (lv_sub hl [1, 2, 3, 0] rfl)
          · refine lv_aload_n X.1 X.2.1 dX5_isGroupFree_37 rfl (lv_at hl 0 rfl) ?_
            refine m_get (ci := 5) (C := RX5) (T := TX5) (N := 10) X hM inA5 (by decide) (dE_desk G _) rfl 1 (by decide) kl_X5_18 rfl rfl dX5_isGroupFree_38 ?_
            refine lv_iload X.1 X.2.1 dX5_isGroupFree_41 (lv_at hl 3 rfl) ?_
            refine m_aald 1 rfl X hM (by decide) (dE_coupons G _) rfl (show j < 8 by omega) (by decide) dX5_isGroupFree_43 ?_
            refine m_getN (ci := 0) (C := RX0) (T := TX0) (N := 6) X hM inA0 (by omega) (dE_cou (show j < 8 by omega) G _) rfl 4 (by decide) kl_X5_255 rfl rfl dX5_isGroupFree_44 ?_
            refine lv_iload_n X.1 X.2.1 dX5_isGroupFree_47 rfl (lv_at hl 2 rfl) ?_
            refine tn_ne (tgt := 53) X dX5_isGroupFree_48 (by decide) (hW.gr (show j < 8 by omega)) (hW.gr hq) (fun h48 => ?_) (fun h48 => ?_)
            · refine tn_inc (k := 3) (w := 1) X dX5_isGroupFree_53 hl rfl (by decide) (by decide) rfl (fun ls hl => ?_)
              replace hl : lv_has ls 5 [(4, _), (0, _), (2, _), (3, _)] := hl
              refine lv_goto (tgt := 19) X.1 X.2.1 dX5_isGroupFree_56 (by decide) ?_
              exact ih (j + 1) (by omega) (by simp [grF, hg, h48]) ls H locs hM hS (lv_sub hl [1, 2, 3, 0] rfl)
            · refine tn_ic (v := 0) X dX5_isGroupFree_51 (by decide) ?_
              exact rZ ⟨(if_neg (by unfold gf; rw [grF_false (show j < ν 0 6 by omega) (by have := bt_le st j; omega) h48]; simp [h11])).symm, rfl⟩ X hM hS hret hlk (by omega) dX5_isGroupFree_52
    exact Lp (ν 0 6) 0 (by omega) rfl ls _ _ hM hS (lv_sub hl [2, 4, 1, 0] rfl)
  · refine tn_ic (v := 1) X dX5_isGroupFree_14 (by decide) ?_
    exact rZ ⟨(if_pos (by unfold gf; simp [h11])).symm, rfl⟩ X hM hS hret hlk (by omega) dX5_isGroupFree_15

set_option maxHeartbeats 4000000 in
set_option maxRecDepth 100000 in
theorem c_X5_isSetAllowed {l : Launch} {G : dG} {ν : Mm} {st : Nat} (hW : WD ν) (hs : st < 2 ^ 31) : cI l yX5_isSetAllowed cX5_isSetAllowed 4 (some .boolean) 3 G [.ref (ra G 0), .int (nI st)] ν (fun r ν' => r = (if al ν st = true then 1 else 0) ∧ ν' = ν) := by
  refine cI_of (by decide +kernel) (Nat.le_of_ble_eq_true rfl) ?_
  intro p e s m args below meth c ls X hM hret hlk hl
  have hS : dS G s.heap s.heap [] := va_S.rf
  have hnc := hW.nc
  refine tn_ic (v := 0) X dX5_isSetAllowed_0 (by decide) ?_
  refine lv_istore_n X.1 X.2.1 dX5_isSetAllowed_1 rfl hl (by decide) rfl (fun ls hl => ?_)
  replace hl : lv_has ls 4 [(2, _), (0, _), (1, _)] := hl
  have Lp : ∀ (k : Nat) (j : Nat), j + k = ν 0 6 → alF ν st j = true → ∀ (ls : Array Slot) (H : Heap) (locs : List Loc), dM G ν H → dS G s.heap H locs → lv_has ls 4 [(0, .ref (ra G 0)), (1, .int (nI st)), (2, .int (nI j))] → W p l e (rmD 3) s m args below meth c H locs 0 0 (MQ below (dQi G s.heap.size (fun r ν' => r = (if al ν st = true then 1 else 0) ∧ ν' = ν)) args s 0 0 (dA G s.heap.size)) (F0 m 2 ls []) := by
    intro k
    induction k with
    | zero =>
      intro j hj hg ls H locs hM hS hl
      refine lv_iload_n X.1 X.2.1 dX5_isSetAllowed_2 rfl (lv_at hl 2 rfl) ?_
      refine lv_aload_n X.1 X.2.1 dX5_isSetAllowed_3 rfl (lv_at hl 0 rfl) ?_
      refine m_get (ci := 5) (C := RX5) (T := TX5) (N := 10) X hM inA5 (by decide) (dE_desk G _) rfl 6 (by decide) kl_X5_46 rfl rfl dX5_isSetAllowed_4 ?_
      refine tn_ge (tgt := 59) X dX5_isSetAllowed_7 (by decide) (by omega) (by omega) (fun h7 => ?_) (fun h7 => ?_)
      · refine tn_ic (v := 1) X dX5_isSetAllowed_59 (by decide) ?_
        exact rZ ⟨(if_pos (by unfold al; rw [show ν 0 6 = j by omega, hg])).symm, rfl⟩ X hM hS hret hlk (by omega) dX5_isSetAllowed_60
      · exfalso; omega
    | succ k ih =>
      intro j hj hg ls H locs hM hS hl
      refine lv_iload_n X.1 X.2.1 dX5_isSetAllowed_2 rfl (lv_at hl 2 rfl) ?_
      refine lv_aload_n X.1 X.2.1 dX5_isSetAllowed_3 rfl (lv_at hl 0 rfl) ?_
      refine m_get (ci := 5) (C := RX5) (T := TX5) (N := 10) X hM inA5 (by decide) (dE_desk G _) rfl 6 (by decide) kl_X5_46 rfl rfl dX5_isSetAllowed_4 ?_
      refine tn_ge (tgt := 59) X dX5_isSetAllowed_7 (by decide) (by omega) (by omega) (fun h7 => ?_) (fun h7 => ?_)
      · exfalso; omega
      · refine lv_iload_n X.1 X.2.1 dX5_isSetAllowed_10 rfl (lv_at hl 1 rfl) ?_
        refine lv_iload_n X.1 X.2.1 dX5_isSetAllowed_11 rfl (lv_at hl 2 rfl) ?_
        refine kSI (As := [_, _]) X hM hS hl.1 (c_X5_contains hs (by omega)) kl_X5_249 mf_X5_contains ⟨Nat.le_of_ble_eq_true rfl, Nat.le_of_ble_eq_true rfl⟩ ⟨Nat.zero_le _, Nat.zero_le _⟩ rfl (Nat.le_of_ble_eq_true rfl) dX5_isSetAllowed_12 (fun r12 ν12 H locs hp12 hM hS => ?_)
        obtain ⟨rfl, e12⟩ := hp12
        replace e12 := e12.symm
        subst e12
        refine tn_eq0 (tgt := 53) X dX5_isSetAllowed_15 (by decide) (by have := bt_le st j; omega) (fun h15 => ?_) (fun h15 => ?_)
        · refine tn_inc (k := 2) (w := 1) X dX5_isSetAllowed_53 hl rfl (by decide) (by decide) rfl (fun ls hl => ?_)
          replace hl : lv_has ls 4 [(2, _), (0, _), (1, _)] := hl
          refine lv_goto (tgt := 2) X.1 X.2.1 dX5_isSetAllowed_56 (by decide) ?_
          exact ih (j + 1) (by omega) (by simp [alF, hg, h15]) ls H locs hM hS (lv_sub hl [1, 2, 0] rfl)
        · refine lv_iload_n X.1 X.2.1 dX5_isSetAllowed_18 rfl (lv_at hl 1 rfl) ?_
          refine tn_ic (v := 1) X dX5_isSetAllowed_19 (by decide) ?_
          refine lv_iload_n X.1 X.2.1 dX5_isSetAllowed_20 rfl (lv_at hl 2 rfl) ?_
          refine tn_shl1 X dX5_isSetAllowed_21 (by omega) ?_
          refine tn_ic (v := 1) X dX5_isSetAllowed_22 (by decide) ?_
          refine tn_sub X dX5_isSetAllowed_23 (Nat.one_le_two_pow) ?_
          refine tn_and X dX5_isSetAllowed_24 ?_
          refine lv_istore_n X.1 X.2.1 dX5_isSetAllowed_25 rfl hl (by decide) rfl (fun ls hl => ?_)
          replace hl : lv_has ls 4 [(3, _), (0, _), (1, _), (2, _)] := hl
          refine lv_aload_n X.1 X.2.1 dX5_isSetAllowed_26 rfl (lv_at hl 1 rfl) ?_
          refine m_get (ci := 5) (C := RX5) (T := TX5) (N := 10) X hM inA5 (by decide) (dE_desk G _) rfl 1 (by decide) kl_X5_18 rfl rfl dX5_isSetAllowed_27 ?_
          refine lv_iload_n X.1 X.2.1 dX5_isSetAllowed_30 rfl (lv_at hl 3 rfl) ?_
          refine m_aald 1 rfl X hM (by decide) (dE_coupons G _) rfl (show j < 8 by omega) (by decide) dX5_isSetAllowed_31 ?_
          refine lv_aload_n X.1 X.2.1 dX5_isSetAllowed_32 rfl (lv_at hl 1 rfl) ?_
          refine m_get (ci := 5) (C := RX5) (T := TX5) (N := 10) X hM inA5 (by decide) (dE_desk G _) rfl 0 (by decide) kl_X5_12 rfl rfl dX5_isSetAllowed_33 ?_
          refine kNI (As := [_]) X hM hS hl.1 (c_X0_isUsableFor (show j < 8 by omega) lotB_1 (hW.cs (show j < 8 by omega)) (hW.cC lotB_1) (hW.pb2 lotB_1 _) (hW.mn (show j < 8 by omega)) (hW.us (show j < 8 by omega))) (by omega) (dE_cou (show j < 8 by omega) G _) rfl rfl kl_X5_128 mf_X0_isUsableFor ⟨Nat.le_of_ble_eq_true rfl, Nat.le_of_ble_eq_true rfl⟩ ⟨Nat.zero_le _, Nat.zero_le _⟩ rfl (Nat.le_of_ble_eq_true rfl) dX5_isSetAllowed_36 (fun r36 ν36 H locs hp36 hM hS => ?_)
          obtain ⟨rfl, e36⟩ := hp36
          replace e36 := e36.symm
          subst e36
          refine tn_eq0 (tgt := 51) X dX5_isSetAllowed_39 (by decide) (by split <;> decide) (fun h39 => ?_) (fun h39 => ?_)
          · refine tn_ic (v := 0) X dX5_isSetAllowed_51 (by decide) ?_
            exact rZ ⟨(if_neg (by unfold al; rw [al_false (show j < ν 0 6 by omega) (by have := bt_le st j; omega) (Or.inl (ite0 h39))]; simp)).symm, rfl⟩ X hM hS hret hlk (by omega) dX5_isSetAllowed_52
          · refine lv_aload_n X.1 X.2.1 dX5_isSetAllowed_42 rfl (lv_at hl 1 rfl) ?_
            refine lv_iload_n X.1 X.2.1 dX5_isSetAllowed_43 rfl (lv_at hl 3 rfl) ?_
            refine lv_iload_n X.1 X.2.1 dX5_isSetAllowed_44 rfl (lv_at hl 0 rfl) ?_
            refine kVI (As := [_, _]) X hM hS hl.1 (c_X5_isGroupFree hW (show j < 8 by omega) (Nat.lt_of_le_of_lt Nat.and_le_left hs)) (by decide) (dE_desk G _) rfl rfl kl_X5_252 mf_X5_isGroupFree ⟨Nat.le_of_ble_eq_true rfl, Nat.le_of_ble_eq_true rfl⟩ ⟨Nat.zero_le _, Nat.zero_le _⟩ rfl (Nat.le_of_ble_eq_true rfl) dX5_isSetAllowed_45 (fun r45 ν45 H locs hp45 hM hS => ?_)
            obtain ⟨rfl, e45⟩ := hp45
            replace e45 := e45.symm
            subst e45
            refine tn_ne0 (tgt := 53) X dX5_isSetAllowed_48 (by decide) (by split <;> decide) (fun h48 => ?_) (fun h48 => ?_)
            · refine tn_inc (k := 3) (w := 1) X dX5_isSetAllowed_53 hl rfl (by decide) (by decide) rfl (fun ls hl => ?_)
              replace hl : lv_has ls 4 [(2, _), (3, _), (0, _), (1, _)] := hl
              refine lv_goto (tgt := 2) X.1 X.2.1 dX5_isSetAllowed_56 (by decide) ?_
              exact ih (j + 1) (by omega) (by have q1 : decide (usab ν j) = true := decide_eq_true (ite1 h39); simp only [alF, hg, q1, ite1 h48]; simp) ls H locs hM hS (lv_sub hl [2, 3, 0] rfl)
            · refine tn_ic (v := 0) X dX5_isSetAllowed_51 (by decide) ?_
              exact rZ ⟨(if_neg (by unfold al; rw [al_false (show j < ν 0 6 by omega) (by have := bt_le st j; omega) (Or.inr (by simpa using ite0 h48))]; simp)).symm, rfl⟩ X hM hS hret hlk (by omega) dX5_isSetAllowed_52
  exact Lp (ν 0 6) 0 (by omega) rfl ls _ _ hM hS (lv_sub hl [1, 2, 0] rfl)

set_option maxHeartbeats 4000000 in
set_option maxRecDepth 100000 in
theorem c_X5_hasFreight {l : Launch} {G : dG} {ν : Mm} {st : Nat} (hW : WD ν) (hs : st < 2 ^ 31) : cI l yX5_hasFreight cX5_hasFreight 3 (some .boolean) 1 G [.ref (ra G 0), .int (nI st)] ν (fun r ν' => r = (if frF ν st (ν 0 6) = true then 1 else 0) ∧ ν' = ν) := by
  refine cI_of (by decide +kernel) (Nat.le_of_ble_eq_true rfl) ?_
  intro p e s m args below meth c ls X hM hret hlk hl
  have hS : dS G s.heap s.heap [] := va_S.rf
  have hnc := hW.nc
  refine tn_ic (v := 0) X dX5_hasFreight_0 (by decide) ?_
  refine lv_istore_n X.1 X.2.1 dX5_hasFreight_1 rfl hl (by decide) rfl (fun ls hl => ?_)
  replace hl : lv_has ls 3 [(2, _), (0, _), (1, _)] := hl
  have Lp : ∀ (k : Nat) (j : Nat), j + k = ν 0 6 → frF ν st j = false → ∀ (ls : Array Slot) (H : Heap) (locs : List Loc), dM G ν H → dS G s.heap H locs → lv_has ls 3 [(0, .ref (ra G 0)), (1, .int (nI st)), (2, .int (nI j))] → W p l e (rmD 1) s m args below meth c H locs 0 0 (MQ below (dQi G s.heap.size (fun r ν' => r = (if frF ν st (ν 0 6) = true then 1 else 0) ∧ ν' = ν)) args s 0 0 (dA G s.heap.size)) (F0 m 2 ls []) := by
    intro k
    induction k with
    | zero =>
      intro j hj hg ls H locs hM hS hl
      refine lv_iload_n X.1 X.2.1 dX5_hasFreight_2 rfl (lv_at hl 2 rfl) ?_
      refine lv_aload_n X.1 X.2.1 dX5_hasFreight_3 rfl (lv_at hl 0 rfl) ?_
      refine m_get (ci := 5) (C := RX5) (T := TX5) (N := 10) X hM inA5 (by decide) (dE_desk G _) rfl 6 (by decide) kl_X5_46 rfl rfl dX5_hasFreight_4 ?_
      refine tn_ge (tgt := 39) X dX5_hasFreight_7 (by decide) (by omega) (by omega) (fun h7 => ?_) (fun h7 => ?_)
      · refine tn_ic (v := 0) X dX5_hasFreight_39 (by decide) ?_
        exact rZ ⟨(if_neg (by rw [show ν 0 6 = j by omega, hg]; simp)).symm, rfl⟩ X hM hS hret hlk (by omega) dX5_hasFreight_40
      · exfalso; omega
    | succ k ih =>
      intro j hj hg ls H locs hM hS hl
      refine lv_iload_n X.1 X.2.1 dX5_hasFreight_2 rfl (lv_at hl 2 rfl) ?_
      refine lv_aload_n X.1 X.2.1 dX5_hasFreight_3 rfl (lv_at hl 0 rfl) ?_
      refine m_get (ci := 5) (C := RX5) (T := TX5) (N := 10) X hM inA5 (by decide) (dE_desk G _) rfl 6 (by decide) kl_X5_46 rfl rfl dX5_hasFreight_4 ?_
      refine tn_ge (tgt := 39) X dX5_hasFreight_7 (by decide) (by omega) (by omega) (fun h7 => ?_) (fun h7 => ?_)
      · exfalso; omega
      · refine lv_iload_n X.1 X.2.1 dX5_hasFreight_10 rfl (lv_at hl 1 rfl) ?_
        refine lv_iload_n X.1 X.2.1 dX5_hasFreight_11 rfl (lv_at hl 2 rfl) ?_
        refine kSI (As := [_, _]) X hM hS hl.1 (c_X5_contains hs (by omega)) kl_X5_249 mf_X5_contains ⟨Nat.le_of_ble_eq_true rfl, Nat.le_of_ble_eq_true rfl⟩ ⟨Nat.zero_le _, Nat.zero_le _⟩ rfl (Nat.le_of_ble_eq_true rfl) dX5_hasFreight_12 (fun r12 ν12 H locs hp12 hM hS => ?_)
        obtain ⟨rfl, e12⟩ := hp12
        replace e12 := e12.symm
        subst e12
        refine tn_eq0 (tgt := 33) X dX5_hasFreight_15 (by decide) (by have := bt_le st j; omega) (fun h15 => ?_) (fun h15 => ?_)
        · refine tn_inc (k := 2) (w := 1) X dX5_hasFreight_33 hl rfl (by decide) (by decide) rfl (fun ls hl => ?_)
          replace hl : lv_has ls 3 [(2, _), (0, _), (1, _)] := hl
          refine lv_goto (tgt := 2) X.1 X.2.1 dX5_hasFreight_36 (by decide) ?_
          exact ih (j + 1) (by omega) (by simp [frF, hg, h15]) ls H locs hM hS (lv_sub hl [1, 2, 0] rfl)
        · refine lv_aload_n X.1 X.2.1 dX5_hasFreight_18 rfl (lv_at hl 0 rfl) ?_
          refine m_get (ci := 5) (C := RX5) (T := TX5) (N := 10) X hM inA5 (by decide) (dE_desk G _) rfl 1 (by decide) kl_X5_18 rfl rfl dX5_hasFreight_19 ?_
          refine lv_iload_n X.1 X.2.1 dX5_hasFreight_22 rfl (lv_at hl 2 rfl) ?_
          refine m_aald 1 rfl X hM (by decide) (dE_coupons G _) rfl (show j < 8 by omega) (by decide) dX5_hasFreight_23 ?_
          refine m_getN (ci := 0) (C := RX0) (T := TX0) (N := 6) X hM inA0 (by omega) (dE_cou (show j < 8 by omega) G _) rfl 0 (by decide) kl_X5_275 rfl rfl dX5_hasFreight_24 ?_
          refine tn_ic (v := 3) X dX5_hasFreight_27 (by decide) ?_
          refine tn_ne (tgt := 33) X dX5_hasFreight_28 (by decide) (hW.k0 (show j < 8 by omega)) (by decide) (fun h28 => ?_) (fun h28 => ?_)
          · refine tn_inc (k := 2) (w := 1) X dX5_hasFreight_33 hl rfl (by decide) (by decide) rfl (fun ls hl => ?_)
            replace hl : lv_has ls 3 [(2, _), (0, _), (1, _)] := hl
            refine lv_goto (tgt := 2) X.1 X.2.1 dX5_hasFreight_36 (by decide) ?_
            exact ih (j + 1) (by omega) (by simp [frF, hg, h28]) ls H locs hM hS (lv_sub hl [1, 2, 0] rfl)
          · refine tn_ic (v := 1) X dX5_hasFreight_31 (by decide) ?_
            exact rZ ⟨(if_pos (frF_true (show j < ν 0 6 by omega) (by have := bt_le st j; omega) h28)).symm, rfl⟩ X hM hS hret hlk (by omega) dX5_hasFreight_32
  exact Lp (ν 0 6) 0 (by omega) rfl ls _ _ hM hS (lv_sub hl [1, 2, 0] rfl)

set_option maxHeartbeats 4000000 in
set_option maxRecDepth 100000 in
theorem c_X5_feeFor {l : Launch} {G : dG} {ν : Mm} {st g : Nat} (hW : WD ν) (hs : st < 2 ^ 31) (hg : g < 2 ^ 31) : cI l yX5_feeFor cX5_feeFor 3 (some .int) 2 G [.ref (ra G 0), .int (nI st), .int (nI g)] ν (fun r ν' => r = feF ν st g ∧ ν' = ν) := by
  refine cI_of (by decide +kernel) (Nat.le_of_ble_eq_true rfl) ?_
  intro p e s m args below meth c ls X hM hret hlk hl
  have hS : dS G s.heap s.heap [] := va_S.rf
  have hli := hW.li
  have h60 := hW.n60 lotB_1
  refine lv_iload_n X.1 X.2.1 dX5_feeFor_0 rfl (lv_at hl 2 rfl) ?_
  refine lv_aload_n X.1 X.2.1 dX5_feeFor_1 rfl (lv_at hl 0 rfl) ?_
  refine m_get (ci := 5) (C := RX5) (T := TX5) (N := 10) X hM inA5 (by decide) (dE_desk G _) rfl 9 (by decide) kl_X5_56 rfl rfl dX5_feeFor_2 ?_
  refine tn_ge (tgt := 26) X dX5_feeFor_5 (by decide) (by omega) (by omega) (fun h5 => ?_) (fun h5 => ?_)
  · refine tn_ic (v := 0) X dX5_feeFor_26 (by decide) ?_
    exact rI ⟨(if_pos (Or.inl h5)).symm, rfl⟩ X hM hS hret hlk dX5_feeFor_27
  · refine lv_aload_n X.1 X.2.1 dX5_feeFor_8 rfl (lv_at hl 0 rfl) ?_
    refine m_get (ci := 5) (C := RX5) (T := TX5) (N := 10) X hM inA5 (by decide) (dE_desk G _) rfl 0 (by decide) kl_X5_12 rfl rfl dX5_feeFor_9 ?_
    refine kNI (As := []) X hM hS hl.1 (c_X1_countOfPieces lotB_1) (by have := lotB.lt lotB_1; omega) (dE_lot lotB_1 G _) rfl rfl kl_X5_177 mf_X1_countOfPieces ⟨Nat.le_of_ble_eq_true rfl, Nat.le_of_ble_eq_true rfl⟩ ⟨Nat.zero_le _, Nat.zero_le _⟩ rfl (Nat.le_of_ble_eq_true rfl) dX5_feeFor_12 (fun r12 ν12 H locs hp12 hM hS => ?_)
    obtain ⟨rfl, e12⟩ := hp12
    replace e12 := e12.symm
    subst e12
    refine tn_eq0 (tgt := 26) X dX5_feeFor_15 (by decide) (by omega) (fun h15 => ?_) (fun h15 => ?_)
    · refine tn_ic (v := 0) X dX5_feeFor_26 (by decide) ?_
      exact rI ⟨(if_pos (Or.inr (Or.inl h15))).symm, rfl⟩ X hM hS hret hlk dX5_feeFor_27
    · refine lv_aload_n X.1 X.2.1 dX5_feeFor_18 rfl (lv_at hl 0 rfl) ?_
      refine lv_iload_n X.1 X.2.1 dX5_feeFor_19 rfl (lv_at hl 1 rfl) ?_
      refine kVI (As := [_]) X hM hS hl.1 (c_X5_hasFreight hW hs) (by decide) (dE_desk G _) rfl rfl kl_X5_272 mf_X5_hasFreight ⟨Nat.le_of_ble_eq_true rfl, Nat.le_of_ble_eq_true rfl⟩ ⟨Nat.zero_le _, Nat.zero_le _⟩ rfl (Nat.le_of_ble_eq_true rfl) dX5_feeFor_20 (fun r20 ν20 H locs hp20 hM hS => ?_)
      obtain ⟨rfl, e20⟩ := hp20
      replace e20 := e20.symm
      subst e20
      refine tn_eq0 (tgt := 28) X dX5_feeFor_23 (by decide) (by split <;> decide) (fun h23 => ?_) (fun h23 => ?_)
      · refine lv_aload_n X.1 X.2.1 dX5_feeFor_28 rfl (lv_at hl 0 rfl) ?_
        refine m_get (ci := 5) (C := RX5) (T := TX5) (N := 10) X hM inA5 (by decide) (dE_desk G _) rfl 8 (by decide) kl_X5_52 rfl rfl dX5_feeFor_29 ?_
        exact rI ⟨(if_neg (fun hh => hh.elim (fun z => by omega) (fun z => z.elim h15 (fun z => ite0 h23 z)))).symm, rfl⟩ X hM hS hret hlk dX5_feeFor_32
      · refine tn_ic (v := 0) X dX5_feeFor_26 (by decide) ?_
        exact rI ⟨(if_pos (Or.inr (Or.inr (ite1 h23)))).symm, rfl⟩ X hM hS hret hlk dX5_feeFor_27

set_option maxHeartbeats 4000000 in
set_option maxRecDepth 100000 in
theorem c_X5_usableForBasket {l : Launch} {G : dG} {ν : Mm} (hW : WD ν) : cI l yX5_usableForBasket cX5_usableForBasket 3 (some .int) 3 G [.ref (ra G 0)] ν (fun r ν' => r = ubF ν (ν 0 6) ∧ ν' = ν) := by
  refine cI_of (by decide +kernel) (Nat.le_of_ble_eq_true rfl) ?_
  intro p e s m args below meth c ls X hM hret hlk hl
  have hS : dS G s.heap s.heap [] := va_S.rf
  have hnc := hW.nc
  refine tn_ic (v := 0) X dX5_usableForBasket_0 (by decide) ?_
  refine lv_istore_n X.1 X.2.1 dX5_usableForBasket_1 rfl hl (by decide) rfl (fun ls hl => ?_)
  replace hl : lv_has ls 3 [(1, _), (0, _)] := hl
  refine tn_ic (v := 0) X dX5_usableForBasket_2 (by decide) ?_
  refine lv_istore_n X.1 X.2.1 dX5_usableForBasket_3 rfl hl (by decide) rfl (fun ls hl => ?_)
  replace hl : lv_has ls 3 [(2, _), (1, _), (0, _)] := hl
  have Lp : ∀ (k : Nat) (j : Nat), j + k = ν 0 6 → ∀ (ls : Array Slot) (H : Heap) (locs : List Loc), dM G ν H → dS G s.heap H locs → lv_has ls 3 [(0, .ref (ra G 0)), (1, .int (nI (ubF ν j))), (2, .int (nI j))] → W p l e (rmD 3) s m args below meth c H locs 0 0 (MQ below (dQi G s.heap.size (fun r ν' => r = ubF ν (ν 0 6) ∧ ν' = ν)) args s 0 0 (dA G s.heap.size)) (F0 m 4 ls []) := by
    intro k
    induction k with
    | zero =>
      intro j hj ls H locs hM hS hl
      refine lv_iload_n X.1 X.2.1 dX5_usableForBasket_4 rfl (lv_at hl 2 rfl) ?_
      refine lv_aload_n X.1 X.2.1 dX5_usableForBasket_5 rfl (lv_at hl 0 rfl) ?_
      refine m_get (ci := 5) (C := RX5) (T := TX5) (N := 10) X hM inA5 (by decide) (dE_desk G _) rfl 6 (by decide) kl_X5_46 rfl rfl dX5_usableForBasket_6 ?_
      refine tn_ge (tgt := 40) X dX5_usableForBasket_9 (by decide) (by omega) (by omega) (fun h9 => ?_) (fun h9 => ?_)
      · refine lv_iload_n X.1 X.2.1 dX5_usableForBasket_40 rfl (lv_at hl 1 rfl) ?_
        exact rI ⟨by rw [show ν 0 6 = j by omega], rfl⟩ X hM hS hret hlk dX5_usableForBasket_41
      · exfalso; omega
    | succ k ih =>
      intro j hj ls H locs hM hS hl
      refine lv_iload_n X.1 X.2.1 dX5_usableForBasket_4 rfl (lv_at hl 2 rfl) ?_
      refine lv_aload_n X.1 X.2.1 dX5_usableForBasket_5 rfl (lv_at hl 0 rfl) ?_
      refine m_get (ci := 5) (C := RX5) (T := TX5) (N := 10) X hM inA5 (by decide) (dE_desk G _) rfl 6 (by decide) kl_X5_46 rfl rfl dX5_usableForBasket_6 ?_
      refine tn_ge (tgt := 40) X dX5_usableForBasket_9 (by decide) (by omega) (by omega) (fun h9 => ?_) (fun h9 => ?_)
      · exfalso; omega
      · refine lv_aload_n X.1 X.2.1 dX5_usableForBasket_12 rfl (lv_at hl 0 rfl) ?_
        refine m_get (ci := 5) (C := RX5) (T := TX5) (N := 10) X hM inA5 (by decide) (dE_desk G _) rfl 1 (by decide) kl_X5_18 rfl rfl dX5_usableForBasket_13 ?_
        refine lv_iload_n X.1 X.2.1 dX5_usableForBasket_16 rfl (lv_at hl 2 rfl) ?_
        refine m_aald 1 rfl X hM (by decide) (dE_coupons G _) rfl (show j < 8 by omega) (by decide) dX5_usableForBasket_17 ?_
        refine lv_aload_n X.1 X.2.1 dX5_usableForBasket_18 rfl (lv_at hl 0 rfl) ?_
        refine m_get (ci := 5) (C := RX5) (T := TX5) (N := 10) X hM inA5 (by decide) (dE_desk G _) rfl 0 (by decide) kl_X5_12 rfl rfl dX5_usableForBasket_19 ?_
        refine kNI (As := [_]) X hM hS hl.1 (c_X0_isUsableFor (show j < 8 by omega) lotB_1 (hW.cs (show j < 8 by omega)) (hW.cC lotB_1) (hW.pb2 lotB_1 _) (hW.mn (show j < 8 by omega)) (hW.us (show j < 8 by omega))) (by omega) (dE_cou (show j < 8 by omega) G _) rfl rfl kl_X5_128 mf_X0_isUsableFor ⟨Nat.le_of_ble_eq_true rfl, Nat.le_of_ble_eq_true rfl⟩ ⟨Nat.zero_le _, Nat.zero_le _⟩ rfl (Nat.le_of_ble_eq_true rfl) dX5_usableForBasket_22 (fun r22 ν22 H locs hp22 hM hS => ?_)
        obtain ⟨rfl, e22⟩ := hp22
        replace e22 := e22.symm
        subst e22
        refine tn_eq0 (tgt := 34) X dX5_usableForBasket_25 (by decide) (by split <;> decide) (fun h25 => ?_) (fun h25 => ?_)
        · refine tn_inc (k := 2) (w := 1) X dX5_usableForBasket_34 hl rfl (by decide) (by decide) rfl (fun ls hl => ?_)
          replace hl : lv_has ls 3 [(2, _), (0, _), (1, _)] := hl
          refine lv_goto (tgt := 4) X.1 X.2.1 dX5_usableForBasket_37 (by decide) ?_
          have e : ubF ν (j + 1) = _ := if_neg (ite0 h25)
          exact ih (j + 1) (by omega) ls H locs hM hS (by rw [e]; exact (lv_sub hl [1, 2, 0] rfl))
        · refine lv_iload_n X.1 X.2.1 dX5_usableForBasket_28 rfl (lv_at hl 1 rfl) ?_
          refine tn_ic (v := 1) X dX5_usableForBasket_29 (by decide) ?_
          refine lv_iload_n X.1 X.2.1 dX5_usableForBasket_30 rfl (lv_at hl 2 rfl) ?_
          refine tn_shl1 X dX5_usableForBasket_31 (by omega) ?_
          refine tn_or X dX5_usableForBasket_32 ?_
          refine lv_istore_n X.1 X.2.1 dX5_usableForBasket_33 rfl hl (by decide) rfl (fun ls hl => ?_)
          replace hl : lv_has ls 3 [(1, _), (0, _), (2, _)] := hl
          refine tn_inc (k := 2) (w := 1) X dX5_usableForBasket_34 hl rfl (by decide) (by decide) rfl (fun ls hl => ?_)
          replace hl : lv_has ls 3 [(2, _), (1, _), (0, _)] := hl
          refine lv_goto (tgt := 4) X.1 X.2.1 dX5_usableForBasket_37 (by decide) ?_
          have e : ubF ν (j + 1) = _ := if_pos (ite1 h25)
          exact ih (j + 1) (by omega) ls H locs hM hS (by rw [e]; exact (lv_sub hl [2, 1, 0] rfl))
  exact Lp (ν 0 6) 0 (by omega) ls _ _ hM hS (lv_sub hl [2, 1, 0] rfl)

set_option maxHeartbeats 4000000 in
set_option maxRecDepth 100000 in
theorem c_X5_stillReached {l : Launch} {G : dG} {ν : Mm} {q : Nat} (hW : WD ν) (hq : q < 12) : cI l yX5_stillReached cX5_stillReached 4 (some .int) 2 G [.ref (ra G 0), .ref (ra G (30 + 5 * q))] ν (fun r ν' => r = srF ν q (ν 0 6) ∧ ν' = ν) := by
  refine cI_of (by decide +kernel) (Nat.le_of_ble_eq_true rfl) ?_
  intro p e s m args below meth c ls X hM hret hlk hl
  have hS : dS G s.heap s.heap [] := va_S.rf
  have hnc := hW.nc
  refine tn_ic (v := 0) X dX5_stillReached_0 (by decide) ?_
  refine lv_istore_n X.1 X.2.1 dX5_stillReached_1 rfl hl (by decide) rfl (fun ls hl => ?_)
  replace hl : lv_has ls 4 [(2, _), (0, _), (1, _)] := hl
  refine tn_ic (v := 0) X dX5_stillReached_2 (by decide) ?_
  refine lv_istore_n X.1 X.2.1 dX5_stillReached_3 rfl hl (by decide) rfl (fun ls hl => ?_)
  replace hl : lv_has ls 4 [(3, _), (2, _), (0, _), (1, _)] := hl
  have Lp : ∀ (k : Nat) (j : Nat), j + k = ν 0 6 → ∀ (ls : Array Slot) (H : Heap) (locs : List Loc), dM G ν H → dS G s.heap H locs → lv_has ls 4 [(0, .ref (ra G 0)), (1, .ref (ra G (30 + 5 * q))), (2, .int (nI (srF ν q j))), (3, .int (nI j))] → W p l e (rmD 2) s m args below meth c H locs 0 0 (MQ below (dQi G s.heap.size (fun r ν' => r = srF ν q (ν 0 6) ∧ ν' = ν)) args s 0 0 (dA G s.heap.size)) (F0 m 4 ls []) := by
    intro k
    induction k with
    | zero =>
      intro j hj ls H locs hM hS hl
      refine lv_iload_n X.1 X.2.1 dX5_stillReached_4 rfl (lv_at hl 3 rfl) ?_
      refine lv_aload_n X.1 X.2.1 dX5_stillReached_5 rfl (lv_at hl 0 rfl) ?_
      refine m_get (ci := 5) (C := RX5) (T := TX5) (N := 10) X hM inA5 (by decide) (dE_desk G _) rfl 6 (by decide) kl_X5_46 rfl rfl dX5_stillReached_6 ?_
      refine tn_ge (tgt := 51) X dX5_stillReached_9 (by decide) (by omega) (by omega) (fun h9 => ?_) (fun h9 => ?_)
      · refine lv_iload_n X.1 X.2.1 dX5_stillReached_51 rfl (lv_at hl 2 rfl) ?_
        exact rI ⟨by rw [show ν 0 6 = j by omega], rfl⟩ X hM hS hret hlk dX5_stillReached_52
      · exfalso; omega
    | succ k ih =>
      intro j hj ls H locs hM hS hl
      refine lv_iload_n X.1 X.2.1 dX5_stillReached_4 rfl (lv_at hl 3 rfl) ?_
      refine lv_aload_n X.1 X.2.1 dX5_stillReached_5 rfl (lv_at hl 0 rfl) ?_
      refine m_get (ci := 5) (C := RX5) (T := TX5) (N := 10) X hM inA5 (by decide) (dE_desk G _) rfl 6 (by decide) kl_X5_46 rfl rfl dX5_stillReached_6 ?_
      refine tn_ge (tgt := 51) X dX5_stillReached_9 (by decide) (by omega) (by omega) (fun h9 => ?_) (fun h9 => ?_)
      · exfalso; omega
      · refine lv_aload_n X.1 X.2.1 dX5_stillReached_12 rfl (lv_at hl 1 rfl) ?_
        refine m_getN (ci := 2) (C := RX2) (T := TX2) (N := 4) X hM inA2 (by omega) (dE_ord hq G _) rfl 1 (by decide) kl_X5_206 rfl rfl dX5_stillReached_13 ?_
        refine lv_iload_n X.1 X.2.1 dX5_stillReached_16 rfl (lv_at hl 3 rfl) ?_
        refine kSI (As := [_, _]) X hM hS hl.1 (c_X5_contains (hW.ac hq) (by omega)) kl_X5_249 mf_X5_contains ⟨Nat.le_of_ble_eq_true rfl, Nat.le_of_ble_eq_true rfl⟩ ⟨Nat.zero_le _, Nat.zero_le _⟩ rfl (Nat.le_of_ble_eq_true rfl) dX5_stillReached_17 (fun r17 ν17 H locs hp17 hM hS => ?_)
        obtain ⟨rfl, e17⟩ := hp17
        replace e17 := e17.symm
        subst e17
        refine tn_eq0 (tgt := 45) X dX5_stillReached_20 (by decide) (by have := bt_le (ν (30 + 5 * q) 1) j; omega) (fun h20 => ?_) (fun h20 => ?_)
        · refine tn_inc (k := 3) (w := 1) X dX5_stillReached_45 hl rfl (by decide) (by decide) rfl (fun ls hl => ?_)
          replace hl : lv_has ls 4 [(3, _), (0, _), (1, _), (2, _)] := hl
          refine lv_goto (tgt := 4) X.1 X.2.1 dX5_stillReached_48 (by decide) ?_
          have e : srF ν q (j + 1) = _ := if_neg (fun hh => by have := hh.1; omega)
          exact ih (j + 1) (by omega) ls H locs hM hS (by rw [e]; exact (lv_sub hl [1, 2, 3, 0] rfl))
        · refine lv_aload_n X.1 X.2.1 dX5_stillReached_23 rfl (lv_at hl 0 rfl) ?_
          refine m_get (ci := 5) (C := RX5) (T := TX5) (N := 10) X hM inA5 (by decide) (dE_desk G _) rfl 1 (by decide) kl_X5_18 rfl rfl dX5_stillReached_24 ?_
          refine lv_iload_n X.1 X.2.1 dX5_stillReached_27 rfl (lv_at hl 3 rfl) ?_
          refine m_aald 1 rfl X hM (by decide) (dE_coupons G _) rfl (show j < 8 by omega) (by decide) dX5_stillReached_28 ?_
          refine lv_aload_n X.1 X.2.1 dX5_stillReached_29 rfl (lv_at hl 1 rfl) ?_
          refine m_getN (ci := 2) (C := RX2) (T := TX2) (N := 4) X hM inA2 (by omega) (dE_ord hq G _) rfl 0 (by decide) kl_X5_197 rfl rfl dX5_stillReached_30 ?_
          refine kNI (As := [_]) X hM hS hl.1 (c_X0_isReachedBy (show j < 8 by omega) (lotB_o hq) (hW.cs (show j < 8 by omega)) (hW.cC (lotB_o hq)) (hW.pb2 (lotB_o hq) _) (hW.mn (show j < 8 by omega))) (by omega) (dE_cou (show j < 8 by omega) G _) rfl rfl kl_X5_258 mf_X0_isReachedBy ⟨Nat.le_of_ble_eq_true rfl, Nat.le_of_ble_eq_true rfl⟩ ⟨Nat.zero_le _, Nat.zero_le _⟩ rfl (Nat.le_of_ble_eq_true rfl) dX5_stillReached_33 (fun r33 ν33 H locs hp33 hM hS => ?_)
          obtain ⟨rfl, e33⟩ := hp33
          replace e33 := e33.symm
          subst e33
          refine tn_eq0 (tgt := 45) X dX5_stillReached_36 (by decide) (by split <;> decide) (fun h36 => ?_) (fun h36 => ?_)
          · refine tn_inc (k := 3) (w := 1) X dX5_stillReached_45 hl rfl (by decide) (by decide) rfl (fun ls hl => ?_)
            replace hl : lv_has ls 4 [(3, _), (0, _), (1, _), (2, _)] := hl
            refine lv_goto (tgt := 4) X.1 X.2.1 dX5_stillReached_48 (by decide) ?_
            have e : srF ν q (j + 1) = _ := if_neg (fun hh => ite0 h36 hh.2)
            exact ih (j + 1) (by omega) ls H locs hM hS (by rw [e]; exact (lv_sub hl [1, 2, 3, 0] rfl))
          · refine lv_iload_n X.1 X.2.1 dX5_stillReached_39 rfl (lv_at hl 2 rfl) ?_
            refine tn_ic (v := 1) X dX5_stillReached_40 (by decide) ?_
            refine lv_iload_n X.1 X.2.1 dX5_stillReached_41 rfl (lv_at hl 3 rfl) ?_
            refine tn_shl1 X dX5_stillReached_42 (by omega) ?_
            refine tn_or X dX5_stillReached_43 ?_
            refine lv_istore_n X.1 X.2.1 dX5_stillReached_44 rfl hl (by decide) rfl (fun ls hl => ?_)
            replace hl : lv_has ls 4 [(2, _), (0, _), (1, _), (3, _)] := hl
            refine tn_inc (k := 3) (w := 1) X dX5_stillReached_45 hl rfl (by decide) (by decide) rfl (fun ls hl => ?_)
            replace hl : lv_has ls 4 [(3, _), (2, _), (0, _), (1, _)] := hl
            refine lv_goto (tgt := 4) X.1 X.2.1 dX5_stillReached_48 (by decide) ?_
            have e : srF ν q (j + 1) = _ := if_pos ⟨by have := bt_le (ν (30 + 5 * q) 1) j; omega, ite1 h36⟩
            exact ih (j + 1) (by omega) ls H locs hM hS (by rw [e]; exact (lv_sub hl [2, 3, 1, 0] rfl))
  exact Lp (ν 0 6) 0 (by omega) ls _ _ hM hS (lv_sub hl [2, 3, 1, 0] rfl)

set_option maxHeartbeats 4000000 in
set_option maxRecDepth 100000 in
theorem c_X5_useUp {l : Launch} {G : dG} {ν : Mm} {st : Nat} (hW : WD ν) (hs : st < 2 ^ 31) (hu : ∀ k, k < ν 0 6 → bt st k = 1 → 0 < ν (22 + k) 5) : cV l yX5_useUp cX5_useUp 3 1 G [.ref (ra G 0), .int (nI st)] ν (fun ν' => ν' = uuM ν st (ν 0 6)) := by
  refine cV_of (by decide +kernel) (Nat.le_of_ble_eq_true rfl) ?_
  intro p e s m args below meth c ls X hM hret hlk hl
  have hS : dS G s.heap s.heap [] := va_S.rf
  have hnc := hW.nc
  refine tn_ic (v := 0) X dX5_useUp_0 (by decide) ?_
  refine lv_istore_n X.1 X.2.1 dX5_useUp_1 rfl hl (by decide) rfl (fun ls hl => ?_)
  replace hl : lv_has ls 3 [(2, _), (0, _), (1, _)] := hl
  have Lp : ∀ (k : Nat) (j : Nat), j + k = ν 0 6 → ∀ (ls : Array Slot) (H : Heap) (locs : List Loc), dM G (uuM ν st j) H → dS G s.heap H locs → lv_has ls 3 [(0, .ref (ra G 0)), (1, .int (nI st)), (2, .int (nI j))] → W p l e (rmD 1) s m args below meth c H locs 0 0 (MQ below (dQv G s.heap.size (fun ν' => ν' = uuM ν st (ν 0 6))) args s 0 0 (dA G s.heap.size)) (F0 m 2 ls []) := by
    intro k
    induction k with
    | zero =>
      intro j hj ls H locs hM hS hl
      have e0 : uuM ν st j 0 6 = ν 0 6 := by rw [uuM_off ν st j 0 (by omega)]
      have ec : uuM ν st j (22 + j) = ν (22 + j) := uuM_ge ν st j j (Nat.le_refl _)
      refine lv_iload_n X.1 X.2.1 dX5_useUp_2 rfl (lv_at hl 2 rfl) ?_
      refine lv_aload_n X.1 X.2.1 dX5_useUp_3 rfl (lv_at hl 0 rfl) ?_
      refine m_get (ci := 5) (C := RX5) (T := TX5) (N := 10) X hM inA5 (by decide) (dE_desk G _) rfl 6 (by decide) kl_X5_46 rfl rfl dX5_useUp_4 ?_
      refine tn_ge (tgt := 39) X dX5_useUp_7 (by decide) (by omega) (by omega) (fun h7 => ?_) (fun h7 => ?_)
      · exact rV (by rw [show ν 0 6 = j by omega]) X hM hS hret hlk dX5_useUp_39
      · exfalso; omega
    | succ k ih =>
      intro j hj ls H locs hM hS hl
      have e0 : uuM ν st j 0 6 = ν 0 6 := by rw [uuM_off ν st j 0 (by omega)]
      have ec : uuM ν st j (22 + j) = ν (22 + j) := uuM_ge ν st j j (Nat.le_refl _)
      refine lv_iload_n X.1 X.2.1 dX5_useUp_2 rfl (lv_at hl 2 rfl) ?_
      refine lv_aload_n X.1 X.2.1 dX5_useUp_3 rfl (lv_at hl 0 rfl) ?_
      refine m_get (ci := 5) (C := RX5) (T := TX5) (N := 10) X hM inA5 (by decide) (dE_desk G _) rfl 6 (by decide) kl_X5_46 rfl rfl dX5_useUp_4 ?_
      refine tn_ge (tgt := 39) X dX5_useUp_7 (by decide) (by omega) (by omega) (fun h7 => ?_) (fun h7 => ?_)
      · exfalso; omega
      · refine lv_iload_n X.1 X.2.1 dX5_useUp_10 rfl (lv_at hl 1 rfl) ?_
        refine lv_iload_n X.1 X.2.1 dX5_useUp_11 rfl (lv_at hl 2 rfl) ?_
        refine kSI (As := [_, _]) X hM hS hl.1 (c_X5_contains hs (by omega)) kl_X5_249 mf_X5_contains ⟨Nat.le_of_ble_eq_true rfl, Nat.le_of_ble_eq_true rfl⟩ ⟨Nat.zero_le _, Nat.zero_le _⟩ rfl (Nat.le_of_ble_eq_true rfl) dX5_useUp_12 (fun r12 ν12 H locs hp12 hM hS => ?_)
        obtain ⟨rfl, e12⟩ := hp12
        replace e12 := e12.symm
        subst e12
        refine tn_eq0 (tgt := 33) X dX5_useUp_15 (by decide) (by have := bt_le st j; omega) (fun h15 => ?_) (fun h15 => ?_)
        · refine tn_inc (k := 2) (w := 1) X dX5_useUp_33 hl rfl (by decide) (by decide) rfl (fun ls hl => ?_)
          replace hl : lv_has ls 3 [(2, _), (0, _), (1, _)] := hl
          refine lv_goto (tgt := 2) X.1 X.2.1 dX5_useUp_36 (by decide) ?_
          have e : uuM ν st (j + 1) = _ := if_neg (by omega)
          exact ih (j + 1) (by omega) ls H locs (by rw [e]; exact hM) hS (lv_sub hl [1, 2, 0] rfl)
        · have hb1 : bt st j = 1 := by have := bt_le st j; omega
          refine lv_aload_n X.1 X.2.1 dX5_useUp_18 rfl (lv_at hl 0 rfl) ?_
          refine m_get (ci := 5) (C := RX5) (T := TX5) (N := 10) X hM inA5 (by decide) (dE_desk G _) rfl 1 (by decide) kl_X5_18 rfl rfl dX5_useUp_19 ?_
          refine lv_iload_n X.1 X.2.1 dX5_useUp_22 rfl (lv_at hl 2 rfl) ?_
          refine m_aald 1 rfl X hM (by decide) (dE_coupons G _) rfl (by omega) (by decide) dX5_useUp_23 ?_
          refine lv_dup X.1 X.2.1 dX5_useUp_24 rfl ?_
          refine m_getN (ci := 0) (C := RX0) (T := TX0) (N := 6) X hM inA0 (by omega) (dE_cou (by omega) G _) rfl 5 (by decide) kl_X5_123 rfl rfl dX5_useUp_25 ?_
          refine tn_ic (v := 1) X dX5_useUp_28 (by decide) ?_
          refine tn_sub X dX5_useUp_29 (by rw [ec]; exact hu j (by omega) hb1) ?_
          refine m_putN (ci := 0) (C := RX0) (T := TX0) (N := 6) X hM hS inA0 tyX0_ok nmX0 (by omega) (dE_cou (by omega) G _) rfl 5 (by decide) kl_X5_123 rfl rfl (by decide +kernel) (Nat.le_of_ble_eq_true rfl) (dE_cou (by omega) G _) dX5_useUp_30 (fun H locs hM hS => ?_)
          refine tn_inc (k := 2) (w := 1) X dX5_useUp_33 hl rfl (by decide) (by decide) rfl (fun ls hl => ?_)
          replace hl : lv_has ls 3 [(2, _), (0, _), (1, _)] := hl
          refine lv_goto (tgt := 2) X.1 X.2.1 dX5_useUp_36 (by decide) ?_
          have e : uuM ν st (j + 1) = _ := if_pos hb1
          exact ih (j + 1) (by omega) ls H locs (by rw [e]; exact hM) hS (lv_sub hl [1, 2, 0] rfl)
  exact Lp (ν 0 6) 0 (by omega) ls _ _ hM hS (lv_sub hl [1, 2, 0] rfl)
