/-! ===== Search, Order, the rest of Lot and Coupon ===== -/
set_option maxHeartbeats 4000000 in
set_option maxRecDepth 100000 in
theorem c_J6_bitCount_0f7a4 {l : Launch} {G : dG} {ν : Mm} {a : Nat} (ha : a < 256) : cI l yJ6_bitCount_0f7a4 cJ6_bitCount_0f7a4 1 (some .int) 0 G [.int (nI a)] ν (fun r ν' => r = bc a ∧ ν' = ν) := by
  refine cI_of (by decide +kernel) (Nat.le_of_ble_eq_true rfl) ?_
  intro p e s m args below meth c ls X hM hret hlk hl
  have hS : dS G s.heap s.heap [] := va_S.rf
  refine lv_iload_n X.1 X.2.1 dJ6_bitCount_0f7a4_0 rfl (lv_at hl 0 rfl) ?_
  refine lv_iload_n X.1 X.2.1 dJ6_bitCount_0f7a4_1 rfl (lv_at hl 0 rfl) ?_
  refine tn_ic (v := 1) X dJ6_bitCount_0f7a4_2 (by decide) ?_
  refine tn_ushr X dJ6_bitCount_0f7a4_3 (by omega) (by omega) ?_
  refine tn_ldcw (w := 1431655765) X kl_J6_265 (by decide) dJ6_bitCount_0f7a4_4 ?_
  refine tn_and X dJ6_bitCount_0f7a4_7 ?_
  refine tn_sub X dJ6_bitCount_0f7a4_8 (Nat.le_trans Nat.and_le_left (by omega)) ?_
  refine lv_istore_n X.1 X.2.1 dJ6_bitCount_0f7a4_9 rfl hl (by decide) rfl (fun ls hl => ?_)
  replace hl : lv_has ls 1 [(0, _)] := hl
  refine lv_iload_n X.1 X.2.1 dJ6_bitCount_0f7a4_10 rfl (lv_at hl 0 rfl) ?_
  refine tn_ldcw (w := 858993459) X kl_J6_266 (by decide) dJ6_bitCount_0f7a4_11 ?_
  refine tn_and X dJ6_bitCount_0f7a4_14 ?_
  refine lv_iload_n X.1 X.2.1 dJ6_bitCount_0f7a4_15 rfl (lv_at hl 0 rfl) ?_
  refine tn_ic (v := 2) X dJ6_bitCount_0f7a4_16 (by decide) ?_
  refine tn_ushr X dJ6_bitCount_0f7a4_17 (bc_b17 a ha) (by omega) ?_
  refine tn_ldcw (w := 858993459) X kl_J6_266 (by decide) dJ6_bitCount_0f7a4_18 ?_
  refine tn_and X dJ6_bitCount_0f7a4_21 ?_
  refine tn_add X dJ6_bitCount_0f7a4_22 ?_
  refine lv_istore_n X.1 X.2.1 dJ6_bitCount_0f7a4_23 rfl hl (by decide) rfl (fun ls hl => ?_)
  replace hl : lv_has ls 1 [(0, _)] := hl
  refine lv_iload_n X.1 X.2.1 dJ6_bitCount_0f7a4_24 rfl (lv_at hl 0 rfl) ?_
  refine lv_iload_n X.1 X.2.1 dJ6_bitCount_0f7a4_25 rfl (lv_at hl 0 rfl) ?_
  refine tn_ic (v := 4) X dJ6_bitCount_0f7a4_26 (by decide) ?_
  refine tn_ushr X dJ6_bitCount_0f7a4_27 (bc_b27 a ha) (by omega) ?_
  refine tn_add X dJ6_bitCount_0f7a4_28 ?_
  refine tn_ldcw (w := 252645135) X kl_J6_267 (by decide) dJ6_bitCount_0f7a4_29 ?_
  refine tn_and X dJ6_bitCount_0f7a4_32 ?_
  refine lv_istore_n X.1 X.2.1 dJ6_bitCount_0f7a4_33 rfl hl (by decide) rfl (fun ls hl => ?_)
  replace hl : lv_has ls 1 [(0, _)] := hl
  refine lv_iload_n X.1 X.2.1 dJ6_bitCount_0f7a4_34 rfl (lv_at hl 0 rfl) ?_
  refine lv_iload_n X.1 X.2.1 dJ6_bitCount_0f7a4_35 rfl (lv_at hl 0 rfl) ?_
  refine tn_bi (v := 8) X dJ6_bitCount_0f7a4_36 (by decide) ?_
  refine tn_ushr X dJ6_bitCount_0f7a4_38 (bc_b38 a ha) (by omega) ?_
  refine tn_add X dJ6_bitCount_0f7a4_39 ?_
  refine lv_istore_n X.1 X.2.1 dJ6_bitCount_0f7a4_40 rfl hl (by decide) rfl (fun ls hl => ?_)
  replace hl : lv_has ls 1 [(0, _)] := hl
  refine lv_iload_n X.1 X.2.1 dJ6_bitCount_0f7a4_41 rfl (lv_at hl 0 rfl) ?_
  refine lv_iload_n X.1 X.2.1 dJ6_bitCount_0f7a4_42 rfl (lv_at hl 0 rfl) ?_
  refine tn_bi (v := 16) X dJ6_bitCount_0f7a4_43 (by decide) ?_
  refine tn_ushr X dJ6_bitCount_0f7a4_45 (bc_b45 a ha) (by omega) ?_
  refine tn_add X dJ6_bitCount_0f7a4_46 ?_
  refine lv_istore_n X.1 X.2.1 dJ6_bitCount_0f7a4_47 rfl hl (by decide) rfl (fun ls hl => ?_)
  replace hl : lv_has ls 1 [(0, _)] := hl
  refine lv_iload_n X.1 X.2.1 dJ6_bitCount_0f7a4_48 rfl (lv_at hl 0 rfl) ?_
  refine tn_bi (v := 63) X dJ6_bitCount_0f7a4_49 (by decide) ?_
  refine tn_and X dJ6_bitCount_0f7a4_51 ?_
  refine tn_as (bc_run a ha) ?_
  exact rI ⟨rfl, rfl⟩ X hM hS hret hlk dJ6_bitCount_0f7a4_52

set_option maxHeartbeats 4000000 in
set_option maxRecDepth 100000 in
theorem c_X3_begin {l : Launch} {G : dG} {ν : Mm} {lo us : Nat}  : cV l yX3_begin cX3_begin 3 0 G [.ref (ra G 21), .int (nI lo), .int (nI us)] ν (fun ν' => ν' = up2 (up2 (up2 (up2 (up2 ν 21 0 lo) 21 1 us) 21 2 0) 21 3 610001) 21 4 610001) := by
  refine cV_of (by decide +kernel) (Nat.le_of_ble_eq_true rfl) ?_
  intro p e s m args below meth c ls X hM hret hlk hl
  have hS : dS G s.heap s.heap [] := va_S.rf
  refine lv_aload_n X.1 X.2.1 dX3_begin_0 rfl (lv_at hl 0 rfl) ?_
  refine lv_iload_n X.1 X.2.1 dX3_begin_1 rfl (lv_at hl 1 rfl) ?_
  refine m_put (ci := 3) (C := RX3) (T := TX3) (N := 5) X hM hS inA3 tyX3_ok nmX3 (by decide) (dE_search G _) rfl 0 (by decide) kl_X3_9 rfl rfl (by decide +kernel) (Nat.le_of_ble_eq_true rfl) (dE_search G _) dX3_begin_2 (fun H locs hM hS => ?_)
  refine lv_aload_n X.1 X.2.1 dX3_begin_5 rfl (lv_at hl 0 rfl) ?_
  refine lv_iload_n X.1 X.2.1 dX3_begin_6 rfl (lv_at hl 2 rfl) ?_
  refine m_put (ci := 3) (C := RX3) (T := TX3) (N := 5) X hM hS inA3 tyX3_ok nmX3 (by decide) (dE_search G _) rfl 1 (by decide) kl_X3_15 rfl rfl (by decide +kernel) (Nat.le_of_ble_eq_true rfl) (dE_search G _) dX3_begin_7 (fun H locs hM hS => ?_)
  refine lv_aload_n X.1 X.2.1 dX3_begin_10 rfl (lv_at hl 0 rfl) ?_
  refine tn_ic (v := 0) X dX3_begin_11 (by decide) ?_
  refine m_put (ci := 3) (C := RX3) (T := TX3) (N := 5) X hM hS inA3 tyX3_ok nmX3 (by decide) (dE_search G _) rfl 2 (by decide) kl_X3_18 rfl rfl (by decide +kernel) (Nat.le_of_ble_eq_true rfl) (dE_search G _) dX3_begin_12 (fun H locs hM hS => ?_)
  refine lv_aload_n X.1 X.2.1 dX3_begin_15 rfl (lv_at hl 0 rfl) ?_
  refine tn_ldc (w := 610001) X kl_X3_21 (by decide) dX3_begin_16 ?_
  refine m_put (ci := 3) (C := RX3) (T := TX3) (N := 5) X hM hS inA3 tyX3_ok nmX3 (by decide) (dE_search G _) rfl 3 (by decide) kl_X3_22 rfl rfl (by decide +kernel) (Nat.le_of_ble_eq_true rfl) (dE_search G _) dX3_begin_18 (fun H locs hM hS => ?_)
  refine lv_aload_n X.1 X.2.1 dX3_begin_21 rfl (lv_at hl 0 rfl) ?_
  refine tn_ldc (w := 610001) X kl_X3_21 (by decide) dX3_begin_22 ?_
  refine m_put (ci := 3) (C := RX3) (T := TX3) (N := 5) X hM hS inA3 tyX3_ok nmX3 (by decide) (dE_search G _) rfl 4 (by decide) kl_X3_25 rfl rfl (by decide +kernel) (Nat.le_of_ble_eq_true rfl) (dE_search G _) dX3_begin_24 (fun H locs hM hS => ?_)
  exact rV rfl X hM hS hret hlk dX3_begin_27

set_option maxHeartbeats 4000000 in
set_option maxRecDepth 100000 in
theorem c_X3_isBetter {l : Launch} {G : dG} {ν : Mm} {st pr : Nat} (h1 : st < 256) (h2 : ν 21 2 < 256) (h3 : pr < 2 ^ 31) (h4 : ν 21 3 < 2 ^ 31) : cI l yX3_isBetter cX3_isBetter 4 (some .boolean) 1 G [.ref (ra G 21), .int (nI st), .int (nI pr)] ν (fun r ν' => r = (if better pr st (ν 21 3) (ν 21 2) then 1 else 0) ∧ ν' = ν) := by
  refine cI_of (by decide +kernel) (Nat.le_of_ble_eq_true rfl) ?_
  intro p e s m args below meth c ls X hM hret hlk hl
  have hS : dS G s.heap s.heap [] := va_S.rf
  refine lv_iload_n X.1 X.2.1 dX3_isBetter_0 rfl (lv_at hl 2 rfl) ?_
  refine lv_aload_n X.1 X.2.1 dX3_isBetter_1 rfl (lv_at hl 0 rfl) ?_
  refine m_get (ci := 3) (C := RX3) (T := TX3) (N := 5) X hM inA3 (by decide) (dE_search G _) rfl 3 (by decide) kl_X3_22 rfl rfl dX3_isBetter_2 ?_
  refine tn_eq (tgt := 22) X dX3_isBetter_5 (by decide) (by omega) (by omega) (fun h5 => ?_) (fun h5 => ?_)
  · refine lv_iload_n X.1 X.2.1 dX3_isBetter_22 rfl (lv_at hl 1 rfl) ?_
    refine kSI (As := [_]) X hM hS hl.1 (c_J6_bitCount_0f7a4 (by assumption)) kl_X3_38 mf_J6_bitCount_0f7a4 ⟨Nat.le_of_ble_eq_true rfl, Nat.le_of_ble_eq_true rfl⟩ ⟨Nat.zero_le _, Nat.zero_le _⟩ rfl (Nat.le_of_ble_eq_true rfl) dX3_isBetter_23 (fun r23 ν23 H locs hp23 hM hS => ?_)
    obtain ⟨rfl, e23⟩ := hp23
    replace e23 := e23.symm
    subst e23
    refine lv_aload_n X.1 X.2.1 dX3_isBetter_26 rfl (lv_at hl 0 rfl) ?_
    refine m_get (ci := 3) (C := RX3) (T := TX3) (N := 5) X hM inA3 (by decide) (dE_search G _) rfl 2 (by decide) kl_X3_18 rfl rfl dX3_isBetter_27 ?_
    refine kSI (As := [_]) X hM hS hl.1 (c_J6_bitCount_0f7a4 (by assumption)) kl_X3_38 mf_J6_bitCount_0f7a4 ⟨Nat.le_of_ble_eq_true rfl, Nat.le_of_ble_eq_true rfl⟩ ⟨Nat.zero_le _, Nat.zero_le _⟩ rfl (Nat.le_of_ble_eq_true rfl) dX3_isBetter_30 (fun r30 ν30 H locs hp30 hM hS => ?_)
    obtain ⟨rfl, e30⟩ := hp30
    replace e30 := e30.symm
    subst e30
    refine tn_subZ X dX3_isBetter_33 ?_
    refine lv_istore_n X.1 X.2.1 dX3_isBetter_34 rfl hl (by decide) rfl (fun ls hl => ?_)
    replace hl : lv_has ls 4 [(3, _), (0, _), (1, _), (2, _)] := hl
    refine lv_iload_n X.1 X.2.1 dX3_isBetter_35 rfl (lv_at hl 0 rfl) ?_
    refine tn_ltZ (tgt := 51) X dX3_isBetter_36 (by decide) (by have := bc_le st; omega) (by have := bc_le (ν 21 2); omega) (fun h36 => ?_) (fun h36 => ?_)
    · refine tn_ic (v := 1) X dX3_isBetter_51 (by decide) ?_
      refine lv_goto (tgt := 56) X.1 X.2.1 dX3_isBetter_52 (by decide) ?_
      exact rZ ⟨(if_pos (by unfold better; omega)).symm, rfl⟩ X hM hS hret hlk (by omega) dX3_isBetter_56
    · refine lv_iload_n X.1 X.2.1 dX3_isBetter_39 rfl (lv_at hl 0 rfl) ?_
      refine tn_neZ (tgt := 55) X dX3_isBetter_40 (by decide) (by have := bc_le st; omega) (by have := bc_le (ν 21 2); omega) (fun h40 => ?_) (fun h40 => ?_)
      · refine tn_ic (v := 0) X dX3_isBetter_55 (by decide) ?_
        exact rZ ⟨(if_neg (by unfold better; omega)).symm, rfl⟩ X hM hS hret hlk (by omega) dX3_isBetter_56
      · refine lv_iload_n X.1 X.2.1 dX3_isBetter_43 rfl (lv_at hl 2 rfl) ?_
        refine lv_aload_n X.1 X.2.1 dX3_isBetter_44 rfl (lv_at hl 1 rfl) ?_
        refine m_get (ci := 3) (C := RX3) (T := TX3) (N := 5) X hM inA3 (by decide) (dE_search G _) rfl 2 (by decide) kl_X3_18 rfl rfl dX3_isBetter_45 ?_
        refine tn_ge (tgt := 55) X dX3_isBetter_48 (by decide) (by omega) (by omega) (fun h48 => ?_) (fun h48 => ?_)
        · refine tn_ic (v := 0) X dX3_isBetter_55 (by decide) ?_
          exact rZ ⟨(if_neg (by unfold better; omega)).symm, rfl⟩ X hM hS hret hlk (by omega) dX3_isBetter_56
        · refine tn_ic (v := 1) X dX3_isBetter_51 (by decide) ?_
          refine lv_goto (tgt := 56) X.1 X.2.1 dX3_isBetter_52 (by decide) ?_
          exact rZ ⟨(if_pos (by unfold better; omega)).symm, rfl⟩ X hM hS hret hlk (by omega) dX3_isBetter_56
  · refine lv_iload_n X.1 X.2.1 dX3_isBetter_8 rfl (lv_at hl 2 rfl) ?_
    refine lv_aload_n X.1 X.2.1 dX3_isBetter_9 rfl (lv_at hl 0 rfl) ?_
    refine m_get (ci := 3) (C := RX3) (T := TX3) (N := 5) X hM inA3 (by decide) (dE_search G _) rfl 3 (by decide) kl_X3_22 rfl rfl dX3_isBetter_10 ?_
    refine tn_ge (tgt := 20) X dX3_isBetter_13 (by decide) (by omega) (by omega) (fun h13 => ?_) (fun h13 => ?_)
    · refine tn_ic (v := 0) X dX3_isBetter_20 (by decide) ?_
      exact rZ ⟨(if_neg (by unfold better; omega)).symm, rfl⟩ X hM hS hret hlk (by omega) dX3_isBetter_21
    · refine tn_ic (v := 1) X dX3_isBetter_16 (by decide) ?_
      refine lv_goto (tgt := 21) X.1 X.2.1 dX3_isBetter_17 (by decide) ?_
      exact rZ ⟨(if_pos (by unfold better; omega)).symm, rfl⟩ X hM hS hret hlk (by omega) dX3_isBetter_21

set_option maxHeartbeats 4000000 in
set_option maxRecDepth 100000 in
theorem c_X3_offer {l : Launch} {G : dG} {ν : Mm} {st pr : Nat} (h1 : st < 256) (h2 : ν 21 2 < 256) (h3 : pr < 2 ^ 31) (h4 : ν 21 3 < 2 ^ 31) (h5 : ν 21 4 < 2 ^ 31) : cV l yX3_offer cX3_offer 3 2 G [.ref (ra G 21), .int (nI st), .int (nI pr)] ν (fun ν' => ν' = offerM ν st pr) := by
  refine cV_of (by decide +kernel) (Nat.le_of_ble_eq_true rfl) ?_
  intro p e s m args below meth c ls X hM hret hlk hl
  have hS : dS G s.heap s.heap [] := va_S.rf
  refine lv_iload_n X.1 X.2.1 dX3_offer_0 rfl (lv_at hl 1 rfl) ?_
  refine lv_aload_n X.1 X.2.1 dX3_offer_1 rfl (lv_at hl 0 rfl) ?_
  refine m_get (ci := 3) (C := RX3) (T := TX3) (N := 5) X hM inA3 (by decide) (dE_search G _) rfl 0 (by decide) kl_X3_9 rfl rfl dX3_offer_2 ?_
  refine tn_and X dX3_offer_5 ?_
  refine tn_ne0 (tgt := 21) X dX3_offer_6 (by decide) (Nat.lt_of_le_of_lt Nat.and_le_left (by omega)) (fun h6 => ?_) (fun h6 => ?_)
  · refine lv_aload_n X.1 X.2.1 dX3_offer_21 rfl (lv_at hl 0 rfl) ?_
    refine lv_iload_n X.1 X.2.1 dX3_offer_22 rfl (lv_at hl 1 rfl) ?_
    refine lv_iload_n X.1 X.2.1 dX3_offer_23 rfl (lv_at hl 2 rfl) ?_
    refine kVI (As := [_, _]) X hM hS hl.1 (c_X3_isBetter h1 h2 h3 h4) (by decide) (dE_search G _) rfl rfl kl_X3_34 mf_X3_isBetter ⟨Nat.le_of_ble_eq_true rfl, Nat.le_of_ble_eq_true rfl⟩ ⟨Nat.zero_le _, Nat.zero_le _⟩ rfl (Nat.le_of_ble_eq_true rfl) dX3_offer_24 (fun r24 ν24 H locs hp24 hM hS => ?_)
    obtain ⟨rfl, e24⟩ := hp24
    replace e24 := e24.symm
    subst e24
    refine tn_eq0 (tgt := 40) X dX3_offer_27 (by decide) (by split <;> decide) (fun h27 => ?_) (fun h27 => ?_)
    · exact rV (offer_nn h6 (ite0 h27)) X hM hS hret hlk dX3_offer_40
    · refine lv_aload_n X.1 X.2.1 dX3_offer_30 rfl (lv_at hl 0 rfl) ?_
      refine lv_iload_n X.1 X.2.1 dX3_offer_31 rfl (lv_at hl 1 rfl) ?_
      refine m_put (ci := 3) (C := RX3) (T := TX3) (N := 5) X hM hS inA3 tyX3_ok nmX3 (by decide) (dE_search G _) rfl 2 (by decide) kl_X3_18 rfl rfl (by decide +kernel) (Nat.le_of_ble_eq_true rfl) (dE_search G _) dX3_offer_32 (fun H locs hM hS => ?_)
      refine lv_aload_n X.1 X.2.1 dX3_offer_35 rfl (lv_at hl 0 rfl) ?_
      refine lv_iload_n X.1 X.2.1 dX3_offer_36 rfl (lv_at hl 2 rfl) ?_
      refine m_put (ci := 3) (C := RX3) (T := TX3) (N := 5) X hM hS inA3 tyX3_ok nmX3 (by decide) (dE_search G _) rfl 3 (by decide) kl_X3_22 rfl rfl (by decide +kernel) (Nat.le_of_ble_eq_true rfl) (dE_search G _) dX3_offer_37 (fun H locs hM hS => ?_)
      exact rV (offer_np h6 (ite1 h27)) X hM hS hret hlk dX3_offer_40
  · refine lv_aload_n X.1 X.2.1 dX3_offer_9 rfl (lv_at hl 0 rfl) ?_
    refine lv_aload_n X.1 X.2.1 dX3_offer_10 rfl (lv_at hl 0 rfl) ?_
    refine m_get (ci := 3) (C := RX3) (T := TX3) (N := 5) X hM inA3 (by decide) (dE_search G _) rfl 4 (by decide) kl_X3_25 rfl rfl dX3_offer_11 ?_
    refine lv_iload_n X.1 X.2.1 dX3_offer_14 rfl (lv_at hl 2 rfl) ?_
    refine tn_min X hl.1 kl_X3_28 (Nat.le_of_ble_eq_true rfl) (Nat.le_of_ble_eq_true rfl) (Nat.zero_le _) (Nat.zero_le _) (by omega) (by omega) dX3_offer_15 ?_
    refine m_put (ci := 3) (C := RX3) (T := TX3) (N := 5) X hM hS inA3 tyX3_ok nmX3 (by decide) (dE_search G _) rfl 4 (by decide) kl_X3_25 rfl rfl (by decide +kernel) (Nat.le_of_ble_eq_true rfl) (dE_search G _) dX3_offer_18 (fun H locs hM hS => ?_)
    refine lv_aload_n X.1 X.2.1 dX3_offer_21 rfl (lv_at hl 0 rfl) ?_
    refine lv_iload_n X.1 X.2.1 dX3_offer_22 rfl (lv_at hl 1 rfl) ?_
    refine lv_iload_n X.1 X.2.1 dX3_offer_23 rfl (lv_at hl 2 rfl) ?_
    refine kVI (As := [_, _]) X hM hS hl.1 (c_X3_isBetter h1 (by rw [up2_ne2 (by decide)]; exact h2) h3 (by rw [up2_ne2 (by decide)]; exact h4)) (by decide) (dE_search G _) rfl rfl kl_X3_34 mf_X3_isBetter ⟨Nat.le_of_ble_eq_true rfl, Nat.le_of_ble_eq_true rfl⟩ ⟨Nat.zero_le _, Nat.zero_le _⟩ rfl (Nat.le_of_ble_eq_true rfl) dX3_offer_24 (fun r24 ν24 H locs hp24 hM hS => ?_)
    obtain ⟨rfl, e24⟩ := hp24
    replace e24 := e24.symm
    subst e24
    refine tn_eq0 (tgt := 40) X dX3_offer_27 (by decide) (by split <;> decide) (fun h27 => ?_) (fun h27 => ?_)
    · exact rV (offer_pn h6 (ite0 h27)) X hM hS hret hlk dX3_offer_40
    · refine lv_aload_n X.1 X.2.1 dX3_offer_30 rfl (lv_at hl 0 rfl) ?_
      refine lv_iload_n X.1 X.2.1 dX3_offer_31 rfl (lv_at hl 1 rfl) ?_
      refine m_put (ci := 3) (C := RX3) (T := TX3) (N := 5) X hM hS inA3 tyX3_ok nmX3 (by decide) (dE_search G _) rfl 2 (by decide) kl_X3_18 rfl rfl (by decide +kernel) (Nat.le_of_ble_eq_true rfl) (dE_search G _) dX3_offer_32 (fun H locs hM hS => ?_)
      refine lv_aload_n X.1 X.2.1 dX3_offer_35 rfl (lv_at hl 0 rfl) ?_
      refine lv_iload_n X.1 X.2.1 dX3_offer_36 rfl (lv_at hl 2 rfl) ?_
      refine m_put (ci := 3) (C := RX3) (T := TX3) (N := 5) X hM hS inA3 tyX3_ok nmX3 (by decide) (dE_search G _) rfl 3 (by decide) kl_X3_22 rfl rfl (by decide +kernel) (Nat.le_of_ble_eq_true rfl) (dE_search G _) dX3_offer_37 (fun H locs hM hS => ?_)
      exact rV (offer_pp h6 (ite1 h27)) X hM hS hret hlk dX3_offer_40

set_option maxHeartbeats 4000000 in
set_option maxRecDepth 100000 in
theorem c_J7_fill_53178 {l : Launch} {G : dG} {ν : Mm} {L x : Nat} (hL : lotB L) : cV l yJ7_fill_53178 cJ7_fill_53178 4 0 G [.ref (ra G (L + 3)), .int (nI x)] ν (fun ν' => ν' = va_up ν (L + 3) (fun a => if a < 10 then x else ν (L + 3) a)) := by
  refine cV_of (by decide +kernel) (Nat.le_of_ble_eq_true rfl) ?_
  intro p e s m args below meth c ls X hM hret hlk hl
  have hS : dS G s.heap s.heap [] := va_S.rf
  refine tn_ic (v := 0) X dJ7_fill_53178_0 (by decide) ?_
  refine lv_istore_n X.1 X.2.1 dJ7_fill_53178_1 rfl hl (by decide) rfl (fun ls hl => ?_)
  replace hl : lv_has ls 4 [(2, _), (0, _), (1, _)] := hl
  refine lv_aload_n X.1 X.2.1 dJ7_fill_53178_2 rfl (lv_at hl 1 rfl) ?_
  refine m_alen X hM (by have := lotB.lt hL; omega) (dE_lotA hL (by decide) (by decide) G _) dJ7_fill_53178_3 ?_
  refine lv_istore_n X.1 X.2.1 dJ7_fill_53178_4 rfl hl (by decide) rfl (fun ls hl => ?_)
  replace hl : lv_has ls 4 [(3, _), (2, _), (0, _), (1, _)] := hl
  have Lp : ∀ (k : Nat) (a : Nat), a + k = 10 → ∀ (ls : Array Slot) (H : Heap) (locs : List Loc), dM G (va_up ν (L + 3) (fun b => if b < a then x else ν (L + 3) b)) H → dS G s.heap H locs → lv_has ls 4 [(0, .ref (ra G (L + 3))), (1, .int (nI x)), (2, .int (nI a)), (3, .int (nI 10))] → W p l e (rmD 0) s m args below meth c H locs 0 0 (MQ below (dQv G s.heap.size (fun ν' => ν' = va_up ν (L + 3) (fun a => if a < 10 then x else ν (L + 3) a))) args s 0 0 (dA G s.heap.size)) (F0 m 5 ls []) := by
    intro k
    induction k with
    | zero =>
      intro a ha ls H locs hM hS hl
      refine lv_iload_n X.1 X.2.1 dJ7_fill_53178_5 rfl (lv_at hl 2 rfl) ?_
      refine lv_iload_n X.1 X.2.1 dJ7_fill_53178_6 rfl (lv_at hl 3 rfl) ?_
      refine tn_ge (tgt := 20) X dJ7_fill_53178_7 (by decide) (by omega) (by omega) (fun h7 => ?_) (fun h7 => ?_)
      · exact rV (by rw [show a = 10 by omega]) X hM hS hret hlk dJ7_fill_53178_20
      · exfalso; omega
    | succ k ih =>
      intro a ha ls H locs hM hS hl
      refine lv_iload_n X.1 X.2.1 dJ7_fill_53178_5 rfl (lv_at hl 2 rfl) ?_
      refine lv_iload_n X.1 X.2.1 dJ7_fill_53178_6 rfl (lv_at hl 3 rfl) ?_
      refine tn_ge (tgt := 20) X dJ7_fill_53178_7 (by decide) (by omega) (by omega) (fun h7 => ?_) (fun h7 => ?_)
      · exfalso; omega
      · refine lv_aload_n X.1 X.2.1 dJ7_fill_53178_10 rfl (lv_at hl 0 rfl) ?_
        refine lv_iload_n X.1 X.2.1 dJ7_fill_53178_11 rfl (lv_at hl 2 rfl) ?_
        refine lv_iload_n X.1 X.2.1 dJ7_fill_53178_12 rfl (lv_at hl 1 rfl) ?_
        refine m_iast X hM hS (by have := lotB.lt hL; omega) (fun _ => (dE_lotA hL (by decide) (by decide) G _)) (by omega) (by decide) dJ7_fill_53178_13 (fun H locs hM hS => ?_)
        refine tn_inc (k := 2) (w := 1) X dJ7_fill_53178_14 hl rfl (by decide) (by decide) rfl (fun ls hl => ?_)
        replace hl : lv_has ls 4 [(2, _), (0, _), (1, _), (3, _)] := hl
        refine lv_goto (tgt := 5) X.1 X.2.1 dJ7_fill_53178_17 (by decide) ?_
        exact ih (a + 1) (by omega) ls H locs (by rw [fill_step] at hM; exact hM) hS (lv_sub hl [1, 2, 0, 3] rfl)
  exact Lp 10 0 (by omega) ls _ _ (by rw [fill_zero]; exact hM) hS (lv_sub hl [2, 3, 1, 0] rfl)

set_option maxHeartbeats 4000000 in
set_option maxRecDepth 100000 in
theorem c_X1_removeAllPieces {l : Launch} {G : dG} {ν : Mm} {L : Nat} (hL : lotB L) : cV l yX1_removeAllPieces cX1_removeAllPieces 1 1 G [.ref (ra G L)] ν (fun ν' => ν' = va_up ν (L + 3) (fun a => if a < 10 then 0 else ν (L + 3) a)) := by
  refine cV_of (by decide +kernel) (Nat.le_of_ble_eq_true rfl) ?_
  intro p e s m args below meth c ls X hM hret hlk hl
  have hS : dS G s.heap s.heap [] := va_S.rf
  refine lv_aload_n X.1 X.2.1 dX1_removeAllPieces_0 rfl (lv_at hl 0 rfl) ?_
  refine m_get (ci := 1) (C := RX1) (T := TX1) (N := 3) X hM inA1 (by have := lotB.lt hL; omega) (dE_lot hL G _) rfl 2 (by decide) kl_X1_18 rfl rfl dX1_removeAllPieces_1 ?_
  refine tn_ic (v := 0) X dX1_removeAllPieces_4 (by decide) ?_
  refine kSV (As := [_, _]) X hM hS hl.1 (c_J7_fill_53178 hL) kl_X1_27 mf_J7_fill_53178 ⟨Nat.le_of_ble_eq_true rfl, Nat.le_of_ble_eq_true rfl⟩ ⟨Nat.zero_le _, Nat.zero_le _⟩ rfl (Nat.le_of_ble_eq_true rfl) dX1_removeAllPieces_5 (fun ν5 H locs hp5 hM hS => ?_)
  replace hp5 := hp5.symm
  subst hp5
  exact rV rfl X hM hS hret hlk dX1_removeAllPieces_8

set_option maxHeartbeats 4000000 in
set_option maxRecDepth 100000 in
theorem c_X1_copyFrom {l : Launch} {G : dG} {ν : Mm} {L K : Nat} (hL : lotB L) (hK : lotB K) : cV l yX1_copyFrom cX1_copyFrom 2 1 G [.ref (ra G L), .ref (ra G K)] ν (fun ν' => ν' = cpLot ν K L) := by
  refine cV_of (by decide +kernel) (Nat.le_of_ble_eq_true rfl) ?_
  intro p e s m args below meth c ls X hM hret hlk hl
  have hS : dS G s.heap s.heap [] := va_S.rf
  refine lv_aload_n X.1 X.2.1 dX1_copyFrom_0 rfl (lv_at hl 1 rfl) ?_
  refine m_get (ci := 1) (C := RX1) (T := TX1) (N := 3) X hM inA1 (by have := lotB.lt hK; omega) (dE_lot hK G _) rfl 0 (by decide) kl_X1_9 rfl rfl dX1_copyFrom_1 ?_
  refine tn_ic (v := 0) X dX1_copyFrom_4 (by decide) ?_
  refine lv_aload_n X.1 X.2.1 dX1_copyFrom_5 rfl (lv_at hl 0 rfl) ?_
  refine m_get (ci := 1) (C := RX1) (T := TX1) (N := 3) X hM inA1 (by have := lotB.lt hL; omega) (dE_lot hL G _) rfl 0 (by decide) kl_X1_9 rfl rfl dX1_copyFrom_6 ?_
  refine tn_ic (v := 0) X dX1_copyFrom_9 (by decide) ?_
  refine tn_bi (v := 10) X dX1_copyFrom_10 (by decide) ?_
  refine tn_copy X hM hS hl.1 kl_X1_21 (by have := lotB.lt hK; omega) (by have := lotB.lt hL; omega) (dE_lotA hK (by decide) (by decide) G _) (fun _ => (dE_lotA hL (by decide) (by decide) G _)) (by omega) (by decide) (Nat.le_of_ble_eq_true rfl) (Nat.le_of_ble_eq_true rfl) (Nat.le_of_ble_eq_true rfl) dX1_copyFrom_12 (fun H locs hM hS => ?_)
  refine lv_aload_n X.1 X.2.1 dX1_copyFrom_15 rfl (lv_at hl 1 rfl) ?_
  refine m_get (ci := 1) (C := RX1) (T := TX1) (N := 3) X hM inA1 (by have := lotB.lt hK; omega) (dE_lot hK G _) rfl 1 (by decide) kl_X1_15 rfl rfl dX1_copyFrom_16 ?_
  refine tn_ic (v := 0) X dX1_copyFrom_19 (by decide) ?_
  refine lv_aload_n X.1 X.2.1 dX1_copyFrom_20 rfl (lv_at hl 0 rfl) ?_
  refine m_get (ci := 1) (C := RX1) (T := TX1) (N := 3) X hM inA1 (by have := lotB.lt hL; omega) (dE_lot hL G _) rfl 1 (by decide) kl_X1_15 rfl rfl dX1_copyFrom_21 ?_
  refine tn_ic (v := 0) X dX1_copyFrom_24 (by decide) ?_
  refine tn_bi (v := 10) X dX1_copyFrom_25 (by decide) ?_
  refine tn_copy X hM hS hl.1 kl_X1_21 (by have := lotB.lt hK; omega) (by have := lotB.lt hL; omega) (dE_lotA hK (by decide) (by decide) G _) (fun _ => (dE_lotA hL (by decide) (by decide) G _)) (by omega) (by decide) (Nat.le_of_ble_eq_true rfl) (Nat.le_of_ble_eq_true rfl) (Nat.le_of_ble_eq_true rfl) dX1_copyFrom_27 (fun H locs hM hS => ?_)
  refine lv_aload_n X.1 X.2.1 dX1_copyFrom_30 rfl (lv_at hl 1 rfl) ?_
  refine m_get (ci := 1) (C := RX1) (T := TX1) (N := 3) X hM inA1 (by have := lotB.lt hK; omega) (dE_lot hK G _) rfl 2 (by decide) kl_X1_18 rfl rfl dX1_copyFrom_31 ?_
  refine tn_ic (v := 0) X dX1_copyFrom_34 (by decide) ?_
  refine lv_aload_n X.1 X.2.1 dX1_copyFrom_35 rfl (lv_at hl 0 rfl) ?_
  refine m_get (ci := 1) (C := RX1) (T := TX1) (N := 3) X hM inA1 (by have := lotB.lt hL; omega) (dE_lot hL G _) rfl 2 (by decide) kl_X1_18 rfl rfl dX1_copyFrom_36 ?_
  refine tn_ic (v := 0) X dX1_copyFrom_39 (by decide) ?_
  refine tn_bi (v := 10) X dX1_copyFrom_40 (by decide) ?_
  refine tn_copy X hM hS hl.1 kl_X1_21 (by have := lotB.lt hK; omega) (by have := lotB.lt hL; omega) (dE_lotA hK (by decide) (by decide) G _) (fun _ => (dE_lotA hL (by decide) (by decide) G _)) (by omega) (by decide) (Nat.le_of_ble_eq_true rfl) (Nat.le_of_ble_eq_true rfl) (Nat.le_of_ble_eq_true rfl) dX1_copyFrom_42 (fun H locs hM hS => ?_)
  exact rV rfl X hM hS hret hlk dX1_copyFrom_45

set_option maxHeartbeats 4000000 in
set_option maxRecDepth 100000 in
theorem c_X0_become {l : Launch} {G : dG} {ν : Mm} {q a b c1 d1 e1 : Nat} (hq : q < 8) : cV l yX0_become cX0_become 6 0 G [.ref (ra G (22 + q)), .int (nI a), .int (nI b), .int (nI c1), .int (nI d1), .int (nI e1)] ν (fun ν' => ν' = up2 (up2 (up2 (up2 (up2 (up2 ν (22 + q) 0 a) (22 + q) 1 b) (22 + q) 2 c1) (22 + q) 3 d1) (22 + q) 4 e1) (22 + q) 5 9) := by
  refine cV_of (by decide +kernel) (Nat.le_of_ble_eq_true rfl) ?_
  intro p e s m args below meth c ls X hM hret hlk hl
  have hS : dS G s.heap s.heap [] := va_S.rf
  refine lv_aload_n X.1 X.2.1 dX0_become_0 rfl (lv_at hl 0 rfl) ?_
  refine lv_iload_n X.1 X.2.1 dX0_become_1 rfl (lv_at hl 1 rfl) ?_
  refine m_put (ci := 0) (C := RX0) (T := TX0) (N := 6) X hM hS inA0 tyX0_ok nmX0 (by omega) (dE_cou hq G _) rfl 0 (by decide) kl_X0_9 rfl rfl (by decide +kernel) (Nat.le_of_ble_eq_true rfl) (dE_cou hq G _) dX0_become_2 (fun H locs hM hS => ?_)
  refine lv_aload_n X.1 X.2.1 dX0_become_5 rfl (lv_at hl 0 rfl) ?_
  refine lv_iload_n X.1 X.2.1 dX0_become_6 rfl (lv_at hl 2 rfl) ?_
  refine m_put (ci := 0) (C := RX0) (T := TX0) (N := 6) X hM hS inA0 tyX0_ok nmX0 (by omega) (dE_cou hq G _) rfl 1 (by decide) kl_X0_15 rfl rfl (by decide +kernel) (Nat.le_of_ble_eq_true rfl) (dE_cou hq G _) dX0_become_7 (fun H locs hM hS => ?_)
  refine lv_aload_n X.1 X.2.1 dX0_become_10 rfl (lv_at hl 0 rfl) ?_
  refine lv_iload_n X.1 X.2.1 dX0_become_11 rfl (lv_at hl 3 rfl) ?_
  refine m_put (ci := 0) (C := RX0) (T := TX0) (N := 6) X hM hS inA0 tyX0_ok nmX0 (by omega) (dE_cou hq G _) rfl 2 (by decide) kl_X0_18 rfl rfl (by decide +kernel) (Nat.le_of_ble_eq_true rfl) (dE_cou hq G _) dX0_become_12 (fun H locs hM hS => ?_)
  refine lv_aload_n X.1 X.2.1 dX0_become_15 rfl (lv_at hl 0 rfl) ?_
  refine lv_iload X.1 X.2.1 dX0_become_16 (lv_at hl 4 rfl) ?_
  refine m_put (ci := 0) (C := RX0) (T := TX0) (N := 6) X hM hS inA0 tyX0_ok nmX0 (by omega) (dE_cou hq G _) rfl 3 (by decide) kl_X0_21 rfl rfl (by decide +kernel) (Nat.le_of_ble_eq_true rfl) (dE_cou hq G _) dX0_become_18 (fun H locs hM hS => ?_)
  refine lv_aload_n X.1 X.2.1 dX0_become_21 rfl (lv_at hl 0 rfl) ?_
  refine lv_iload X.1 X.2.1 dX0_become_22 (lv_at hl 5 rfl) ?_
  refine m_put (ci := 0) (C := RX0) (T := TX0) (N := 6) X hM hS inA0 tyX0_ok nmX0 (by omega) (dE_cou hq G _) rfl 4 (by decide) kl_X0_24 rfl rfl (by decide +kernel) (Nat.le_of_ble_eq_true rfl) (dE_cou hq G _) dX0_become_24 (fun H locs hM hS => ?_)
  refine lv_aload_n X.1 X.2.1 dX0_become_27 rfl (lv_at hl 0 rfl) ?_
  refine tn_bi (v := 9) X dX0_become_28 (by decide) ?_
  refine m_put (ci := 0) (C := RX0) (T := TX0) (N := 6) X hM hS inA0 tyX0_ok nmX0 (by omega) (dE_cou hq G _) rfl 5 (by decide) kl_X0_27 rfl rfl (by decide +kernel) (Nat.le_of_ble_eq_true rfl) (dE_cou hq G _) dX0_become_30 (fun H locs hM hS => ?_)
  exact rV rfl X hM hS hret hlk dX0_become_33

set_option maxHeartbeats 4000000 in
set_option maxRecDepth 100000 in
theorem c_X2_become {l : Launch} {G : dG} {ν : Mm} {q K a f g : Nat} (hq : q < 12) (hK : lotB K) : cV l yX2_become cX2_become 5 2 G [.ref (ra G (30 + 5 * q)), .ref (ra G K), .int (nI a), .int (nI f), .int (nI g)] ν (fun ν' => ν' = up2 (up2 (up2 (cpLot ν K (31 + 5 * q)) (30 + 5 * q) 1 a) (30 + 5 * q) 2 f) (30 + 5 * q) 3 g) := by
  refine cV_of (by decide +kernel) (Nat.le_of_ble_eq_true rfl) ?_
  intro p e s m args below meth c ls X hM hret hlk hl
  have hS : dS G s.heap s.heap [] := va_S.rf
  refine lv_aload_n X.1 X.2.1 dX2_become_0 rfl (lv_at hl 0 rfl) ?_
  refine m_get (ci := 2) (C := RX2) (T := TX2) (N := 4) X hM inA2 (by omega) (dE_ord hq G _) rfl 0 (by decide) kl_X2_12 rfl rfl dX2_become_1 ?_
  refine lv_aload_n X.1 X.2.1 dX2_become_4 rfl (lv_at hl 1 rfl) ?_
  refine kNV (As := [_]) X hM hS hl.1 (c_X1_copyFrom (lotB_o hq) hK) (by have := lotB.lt (lotB_o hq); omega) (dE_lot (lotB_o hq) G _) rfl rfl kl_X2_28 mf_X1_copyFrom ⟨Nat.le_of_ble_eq_true rfl, Nat.le_of_ble_eq_true rfl⟩ ⟨Nat.zero_le _, Nat.zero_le _⟩ rfl (Nat.le_of_ble_eq_true rfl) dX2_become_5 (fun ν5 H locs hp5 hM hS => ?_)
  replace hp5 := hp5.symm
  subst hp5
  refine lv_aload_n X.1 X.2.1 dX2_become_8 rfl (lv_at hl 0 rfl) ?_
  refine lv_iload_n X.1 X.2.1 dX2_become_9 rfl (lv_at hl 2 rfl) ?_
  refine m_put (ci := 2) (C := RX2) (T := TX2) (N := 4) X hM hS inA2 tyX2_ok nmX2 (by omega) (dE_ord hq G _) rfl 1 (by decide) kl_X2_18 rfl rfl (by decide +kernel) (Nat.le_of_ble_eq_true rfl) (dE_ord hq G _) dX2_become_10 (fun H locs hM hS => ?_)
  refine lv_aload_n X.1 X.2.1 dX2_become_13 rfl (lv_at hl 0 rfl) ?_
  refine lv_iload_n X.1 X.2.1 dX2_become_14 rfl (lv_at hl 3 rfl) ?_
  refine m_put (ci := 2) (C := RX2) (T := TX2) (N := 4) X hM hS inA2 tyX2_ok nmX2 (by omega) (dE_ord hq G _) rfl 2 (by decide) kl_X2_22 rfl rfl (by decide +kernel) (Nat.le_of_ble_eq_true rfl) (dE_ord hq G _) dX2_become_15 (fun H locs hM hS => ?_)
  refine lv_aload_n X.1 X.2.1 dX2_become_18 rfl (lv_at hl 0 rfl) ?_
  refine lv_iload X.1 X.2.1 dX2_become_19 (lv_at hl 4 rfl) ?_
  refine m_put (ci := 2) (C := RX2) (T := TX2) (N := 4) X hM hS inA2 tyX2_ok nmX2 (by omega) (dE_ord hq G _) rfl 3 (by decide) kl_X2_25 rfl rfl (by decide +kernel) (Nat.le_of_ble_eq_true rfl) (dE_ord hq G _) dX2_become_21 (fun H locs hM hS => ?_)
  exact rV rfl X hM hS hret hlk dX2_become_24

set_option maxHeartbeats 4000000 in
set_option maxRecDepth 100000 in
theorem c_X2_tell {l : Launch} {G : dG} {ν : Mm} {q x : Nat} (hq : q < 12) (hx : x < 2 ^ 31) (hC : ∀ a, a < 10 → ν (31 + 5 * q + 2) a < 32) : cI l yX2_tell cX2_tell 2 (some .int) 1 G [.ref (ra G (30 + 5 * q)), .int (nI x)] ν (fun r ν' => r = tellF ν q x ∧ ν' = ν) := by
  refine cI_of (by decide +kernel) (Nat.le_of_ble_eq_true rfl) ?_
  intro p e s m args below meth c ls X hM hret hlk hl
  have hS : dS G s.heap s.heap [] := va_S.rf
  refine lv_iload_n X.1 X.2.1 dX2_tell_0 rfl (lv_at hl 1 rfl) ?_
  rcases (show x = 0 ∨ x = 1 ∨ x = 2 ∨ x = 3 ∨ 3 < x by omega) with h1 | h1 | h1 | h1 | h1
  · refine tn_as h1 ?_
    refine tn_swI (a := 0) (tgt := 32) X dX2_tell_1 (by decide) (by decide) (by decide) rfl (by decide) ?_
    refine lv_aload_n X.1 X.2.1 dX2_tell_32 rfl (lv_at hl 0 rfl) ?_
    refine m_get (ci := 2) (C := RX2) (T := TX2) (N := 4) X hM inA2 (by omega) (dE_ord hq G _) rfl 3 (by decide) kl_X2_25 rfl rfl dX2_tell_33 ?_
    exact rI ⟨by rw [h1]; rfl, rfl⟩ X hM hS hret hlk dX2_tell_36
  · refine tn_as h1 ?_
    refine tn_swI (a := 1) (tgt := 37) X dX2_tell_1 (by decide) (by decide) (by decide) rfl (by decide) ?_
    refine lv_aload_n X.1 X.2.1 dX2_tell_37 rfl (lv_at hl 0 rfl) ?_
    refine m_get (ci := 2) (C := RX2) (T := TX2) (N := 4) X hM inA2 (by omega) (dE_ord hq G _) rfl 2 (by decide) kl_X2_22 rfl rfl dX2_tell_38 ?_
    exact rI ⟨by rw [h1]; rfl, rfl⟩ X hM hS hret hlk dX2_tell_41
  · refine tn_as h1 ?_
    refine tn_swI (a := 2) (tgt := 42) X dX2_tell_1 (by decide) (by decide) (by decide) rfl (by decide) ?_
    refine lv_aload_n X.1 X.2.1 dX2_tell_42 rfl (lv_at hl 0 rfl) ?_
    refine m_get (ci := 2) (C := RX2) (T := TX2) (N := 4) X hM inA2 (by omega) (dE_ord hq G _) rfl 1 (by decide) kl_X2_18 rfl rfl dX2_tell_43 ?_
    exact rI ⟨by rw [h1]; rfl, rfl⟩ X hM hS hret hlk dX2_tell_46
  · refine tn_as h1 ?_
    refine tn_swI (a := 3) (tgt := 47) X dX2_tell_1 (by decide) (by decide) (by decide) rfl (by decide) ?_
    refine lv_aload_n X.1 X.2.1 dX2_tell_47 rfl (lv_at hl 0 rfl) ?_
    refine m_get (ci := 2) (C := RX2) (T := TX2) (N := 4) X hM inA2 (by omega) (dE_ord hq G _) rfl 0 (by decide) kl_X2_12 rfl rfl dX2_tell_48 ?_
    refine kNI (As := []) X hM hS hl.1 (c_X1_countOfPieces (lotB_o hq)) (by have := lotB.lt (lotB_o hq); omega) (dE_lot (lotB_o hq) G _) rfl rfl kl_X2_32 mf_X1_countOfPieces ⟨Nat.le_of_ble_eq_true rfl, Nat.le_of_ble_eq_true rfl⟩ ⟨Nat.zero_le _, Nat.zero_le _⟩ rfl (Nat.le_of_ble_eq_true rfl) dX2_tell_51 (fun r51 ν51 H locs hp51 hM hS => ?_)
    obtain ⟨rfl, e51⟩ := hp51
    replace e51 := e51.symm
    subst e51
    exact rI ⟨by rw [h1]; rfl, rfl⟩ X hM hS hret hlk dX2_tell_54
  · refine tn_swO (tgt := 55) X dX2_tell_1 (by omega) (Or.inr (by omega)) (by decide) ?_
    refine lv_aload_n X.1 X.2.1 dX2_tell_55 rfl (lv_at hl 0 rfl) ?_
    refine m_get (ci := 2) (C := RX2) (T := TX2) (N := 4) X hM inA2 (by omega) (dE_ord hq G _) rfl 0 (by decide) kl_X2_12 rfl rfl dX2_tell_56 ?_
    refine tn_si (v := 255) X dX2_tell_59 (by decide) ?_
    refine kNI (As := [_]) X hM hS hl.1 (c_X1_pricesIn (lotB_o hq) (by decide) hC) (by have := lotB.lt (lotB_o hq); omega) (dE_lot (lotB_o hq) G _) rfl rfl kl_X2_36 mf_X1_pricesIn ⟨Nat.le_of_ble_eq_true rfl, Nat.le_of_ble_eq_true rfl⟩ ⟨Nat.zero_le _, Nat.zero_le _⟩ rfl (Nat.le_of_ble_eq_true rfl) dX2_tell_62 (fun r62 ν62 H locs hp62 hM hS => ?_)
    obtain ⟨rfl, e62⟩ := hp62
    replace e62 := e62.symm
    subst e62
    exact rI ⟨(tellF_4 h1).symm, rfl⟩ X hM hS hret hlk dX2_tell_65
