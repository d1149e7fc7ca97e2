/-! ===== CouponDesk: calls of the face ===== -/
set_option maxHeartbeats 4000000 in
set_option maxRecDepth 100000 in
theorem c_X5_needArticle {l : Launch} {G : dG} {ν : Mm} {a : Nat} (hW : WD ν) (ha : a < ν 0 5) : cV l yX5_needArticle cX5_needArticle 2 0 G [.ref (ra G 0), .int (nI a)] ν (fun ν' => ν' = ν) := by
  refine cV_of (by decide +kernel) (Nat.le_of_ble_eq_true rfl) ?_
  intro p e s m args below meth c ls X hM hret hlk hl
  have hS : dS G s.heap s.heap [] := va_S.rf
  have := hW.na
  refine lv_iload_n X.1 X.2.1 dX5_needArticle_0 rfl (lv_at hl 1 rfl) ?_
  refine tn_lt0 (tgt := 12) X dX5_needArticle_1 (by decide) (by omega) ?_
  refine lv_iload_n X.1 X.2.1 dX5_needArticle_4 rfl (lv_at hl 1 rfl) ?_
  refine lv_aload_n X.1 X.2.1 dX5_needArticle_5 rfl (lv_at hl 0 rfl) ?_
  refine m_get (ci := 5) (C := RX5) (T := TX5) (N := 10) X hM inA5 (by decide) (dE_desk G _) rfl 5 (by decide) kl_X5_42 rfl rfl dX5_needArticle_6 ?_
  refine tn_lt (tgt := 22) X dX5_needArticle_9 (by decide) (by omega) (by omega) (fun h9 => ?_) (fun h9 => ?_)
  · exact rV rfl X hM hS hret hlk dX5_needArticle_22
  · exfalso; omega

set_option maxHeartbeats 4000000 in
set_option maxRecDepth 100000 in
theorem c_X5_needCoupon {l : Launch} {G : dG} {ν : Mm} {a : Nat} (hW : WD ν) (ha : a < ν 0 6) : cV l yX5_needCoupon cX5_needCoupon 2 0 G [.ref (ra G 0), .int (nI a)] ν (fun ν' => ν' = ν) := by
  refine cV_of (by decide +kernel) (Nat.le_of_ble_eq_true rfl) ?_
  intro p e s m args below meth c ls X hM hret hlk hl
  have hS : dS G s.heap s.heap [] := va_S.rf
  have := hW.nc
  refine lv_iload_n X.1 X.2.1 dX5_needCoupon_0 rfl (lv_at hl 1 rfl) ?_
  refine tn_lt0 (tgt := 12) X dX5_needCoupon_1 (by decide) (by omega) ?_
  refine lv_iload_n X.1 X.2.1 dX5_needCoupon_4 rfl (lv_at hl 1 rfl) ?_
  refine lv_aload_n X.1 X.2.1 dX5_needCoupon_5 rfl (lv_at hl 0 rfl) ?_
  refine m_get (ci := 5) (C := RX5) (T := TX5) (N := 10) X hM inA5 (by decide) (dE_desk G _) rfl 6 (by decide) kl_X5_46 rfl rfl dX5_needCoupon_6 ?_
  refine tn_lt (tgt := 22) X dX5_needCoupon_9 (by decide) (by omega) (by omega) (fun h9 => ?_) (fun h9 => ?_)
  · exact rV rfl X hM hS hret hlk dX5_needCoupon_22
  · exfalso; omega

set_option maxHeartbeats 4000000 in
set_option maxRecDepth 100000 in
theorem c_X5_needOrder {l : Launch} {G : dG} {ν : Mm} {a : Nat} (hW : WD ν) (ha : a < ν 0 7) : cV l yX5_needOrder cX5_needOrder 2 0 G [.ref (ra G 0), .int (nI a)] ν (fun ν' => ν' = ν) := by
  refine cV_of (by decide +kernel) (Nat.le_of_ble_eq_true rfl) ?_
  intro p e s m args below meth c ls X hM hret hlk hl
  have hS : dS G s.heap s.heap [] := va_S.rf
  have := hW.no
  refine lv_iload_n X.1 X.2.1 dX5_needOrder_0 rfl (lv_at hl 1 rfl) ?_
  refine tn_lt0 (tgt := 12) X dX5_needOrder_1 (by decide) (by omega) ?_
  refine lv_iload_n X.1 X.2.1 dX5_needOrder_4 rfl (lv_at hl 1 rfl) ?_
  refine lv_aload_n X.1 X.2.1 dX5_needOrder_5 rfl (lv_at hl 0 rfl) ?_
  refine m_get (ci := 5) (C := RX5) (T := TX5) (N := 10) X hM inA5 (by decide) (dE_desk G _) rfl 7 (by decide) kl_X5_49 rfl rfl dX5_needOrder_6 ?_
  refine tn_lt (tgt := 22) X dX5_needOrder_9 (by decide) (by omega) (by omega) (fun h9 => ?_) (fun h9 => ?_)
  · exact rV rfl X hM hS hret hlk dX5_needOrder_22
  · exfalso; omega

set_option maxHeartbeats 4000000 in
set_option maxRecDepth 100000 in
theorem c_X5_needPrice {l : Launch} {G : dG} {ν : Mm} {a : Nat} (h1 : 1 ≤ a) (h2 : a ≤ 10000) : cV l yX5_needPrice cX5_needPrice 1 0 G [.int (nI a)] ν (fun ν' => ν' = ν) := by
  refine cV_of (by decide +kernel) (Nat.le_of_ble_eq_true rfl) ?_
  intro p e s m args below meth c ls X hM hret hlk hl
  have hS : dS G s.heap s.heap [] := va_S.rf
  refine lv_iload_n X.1 X.2.1 dX5_needPrice_0 rfl (lv_at hl 0 rfl) ?_
  refine tn_ic (v := 1) X dX5_needPrice_1 (by decide) ?_
  refine tn_lt (tgt := 12) X dX5_needPrice_2 (by decide) (by omega) (by omega) (fun h2 => ?_) (fun h2 => ?_)
  · exfalso; omega
  · refine lv_iload_n X.1 X.2.1 dX5_needPrice_5 rfl (lv_at hl 0 rfl) ?_
    refine tn_si (v := 10000) X dX5_needPrice_6 (by decide) ?_
    refine tn_le (tgt := 22) X dX5_needPrice_9 (by decide) (by omega) (by omega) (fun h9 => ?_) (fun h9 => ?_)
    · exact rV rfl X hM hS hret hlk dX5_needPrice_22
    · exfalso; omega

set_option maxHeartbeats 4000000 in
set_option maxRecDepth 100000 in
theorem c_X5_needCoupons {l : Launch} {G : dG} {ν : Mm} {st : Nat} (hW : WD ν) (hs : st < 2 ^ ν 0 6) : cV l yX5_needCoupons cX5_needCoupons 2 0 G [.ref (ra G 0), .int (nI st)] ν (fun ν' => ν' = ν) := by
  refine cV_of (by decide +kernel) (Nat.le_of_ble_eq_true rfl) ?_
  intro p e s m args below meth c ls X hM hret hlk hl
  have hS : dS G s.heap s.heap [] := va_S.rf
  have hnc := hW.nc
  have h256 := pow8 hnc
  refine lv_iload_n X.1 X.2.1 dX5_needCoupons_0 rfl (lv_at hl 1 rfl) ?_
  refine tn_lt0 (tgt := 14) X dX5_needCoupons_1 (by decide) (by omega) ?_
  refine lv_iload_n X.1 X.2.1 dX5_needCoupons_4 rfl (lv_at hl 1 rfl) ?_
  refine tn_ic (v := 1) X dX5_needCoupons_5 (by decide) ?_
  refine lv_aload_n X.1 X.2.1 dX5_needCoupons_6 rfl (lv_at hl 0 rfl) ?_
  refine m_get (ci := 5) (C := RX5) (T := TX5) (N := 10) X hM inA5 (by decide) (dE_desk G _) rfl 6 (by decide) kl_X5_46 rfl rfl dX5_needCoupons_7 ?_
  refine tn_shl1 X dX5_needCoupons_10 (by omega) ?_
  refine tn_lt (tgt := 24) X dX5_needCoupons_11 (by decide) (by omega) (by omega) (fun h11 => ?_) (fun h11 => ?_)
  · exact rV rfl X hM hS hret hlk dX5_needCoupons_24
  · exfalso; omega

set_option maxHeartbeats 4000000 in
set_option maxRecDepth 100000 in
theorem c_X5_needAllowed {l : Launch} {G : dG} {ν : Mm} {st : Nat} (hW : WD ν) (hs : st < 2 ^ 31) (hal : al ν st = true) : cV l yX5_needAllowed cX5_needAllowed 2 4 G [.ref (ra G 0), .int (nI st)] ν (fun ν' => ν' = ν) := by
  refine cV_of (by decide +kernel) (Nat.le_of_ble_eq_true rfl) ?_
  intro p e s m args below meth c ls X hM hret hlk hl
  have hS : dS G s.heap s.heap [] := va_S.rf
  refine lv_aload_n X.1 X.2.1 dX5_needAllowed_0 rfl (lv_at hl 0 rfl) ?_
  refine lv_iload_n X.1 X.2.1 dX5_needAllowed_1 rfl (lv_at hl 1 rfl) ?_
  refine kVI (As := [_]) X hM hS hl.1 (c_X5_isSetAllowed hW hs) (by decide) (dE_desk G _) rfl rfl kl_X5_144 mf_X5_isSetAllowed ⟨Nat.le_of_ble_eq_true rfl, Nat.le_of_ble_eq_true rfl⟩ ⟨Nat.zero_le _, Nat.zero_le _⟩ rfl (Nat.le_of_ble_eq_true rfl) dX5_needAllowed_2 (fun r2 ν2 H locs hp2 hM hS => ?_)
  obtain ⟨rfl, e2⟩ := hp2
  replace e2 := e2.symm
  subst e2
  refine tn_ne0 (tgt := 18) X dX5_needAllowed_5 (by decide) (by split <;> decide) (fun h5 => ?_) (fun h5 => ?_)
  · exact rV rfl X hM hS hret hlk dX5_needAllowed_18
  · exact absurd hal (ite0 h5)

set_option maxHeartbeats 4000000 in
set_option maxRecDepth 100000 in
theorem c_X5_isValueOfKind {l : Launch} {G : dG} {ν : Mm} {kd v : Nat} (hk : kd < 2 ^ 31) (hv : v < 2 ^ 31) : cI l yX5_isValueOfKind cX5_isValueOfKind 2 (some .boolean) 0 G [.int (nI kd), .int (nI v)] ν (fun r ν' => r = (if vk kd v then 1 else 0) ∧ ν' = ν) := by
  refine cI_of (by decide +kernel) (Nat.le_of_ble_eq_true rfl) ?_
  intro p e s m args below meth c ls X hM hret hlk hl
  have hS : dS G s.heap s.heap [] := va_S.rf
  refine lv_iload_n X.1 X.2.1 dX5_isValueOfKind_0 rfl (lv_at hl 0 rfl) ?_
  rcases (show kd = 0 ∨ kd = 1 ∨ kd = 2 ∨ kd = 3 ∨ 3 < kd by omega) with h1 | h1 | h1 | h1 | h1
  · refine tn_as h1 ?_
    refine tn_swI (a := 0) (tgt := 32) X dX5_isValueOfKind_1 (by decide) (by decide) (by decide) rfl (by decide) ?_
    refine lv_iload_n X.1 X.2.1 dX5_isValueOfKind_32 rfl (lv_at hl 1 rfl) ?_
    refine tn_ic (v := 1) X dX5_isValueOfKind_33 (by decide) ?_
    refine tn_lt (tgt := 47) X dX5_isValueOfKind_34 (by decide) (by omega) (by omega) (fun h34 => ?_) (fun h34 => ?_)
    · refine tn_ic (v := 0) X dX5_isValueOfKind_47 (by decide) ?_
      exact rZ ⟨(if_neg (by unfold vk; omega)).symm, rfl⟩ X hM hS hret hlk (by omega) dX5_isValueOfKind_48
    · refine lv_iload_n X.1 X.2.1 dX5_isValueOfKind_37 rfl (lv_at hl 1 rfl) ?_
      refine tn_bi (v := 100) X dX5_isValueOfKind_38 (by decide) ?_
      refine tn_gt (tgt := 47) X dX5_isValueOfKind_40 (by decide) (by omega) (by omega) (fun h40 => ?_) (fun h40 => ?_)
      · refine tn_ic (v := 0) X dX5_isValueOfKind_47 (by decide) ?_
        exact rZ ⟨(if_neg (by unfold vk; omega)).symm, rfl⟩ X hM hS hret hlk (by omega) dX5_isValueOfKind_48
      · refine tn_ic (v := 1) X dX5_isValueOfKind_43 (by decide) ?_
        refine lv_goto (tgt := 48) X.1 X.2.1 dX5_isValueOfKind_44 (by decide) ?_
        exact rZ ⟨(if_pos (by unfold vk; omega)).symm, rfl⟩ X hM hS hret hlk (by omega) dX5_isValueOfKind_48
  · refine tn_as h1 ?_
    refine tn_swI (a := 1) (tgt := 49) X dX5_isValueOfKind_1 (by decide) (by decide) (by decide) rfl (by decide) ?_
    refine lv_iload_n X.1 X.2.1 dX5_isValueOfKind_49 rfl (lv_at hl 1 rfl) ?_
    refine tn_ic (v := 1) X dX5_isValueOfKind_50 (by decide) ?_
    refine tn_lt (tgt := 64) X dX5_isValueOfKind_51 (by decide) (by omega) (by omega) (fun h51 => ?_) (fun h51 => ?_)
    · refine tn_ic (v := 0) X dX5_isValueOfKind_64 (by decide) ?_
      exact rZ ⟨(if_neg (by unfold vk; omega)).symm, rfl⟩ X hM hS hret hlk (by omega) dX5_isValueOfKind_65
    · refine lv_iload_n X.1 X.2.1 dX5_isValueOfKind_54 rfl (lv_at hl 1 rfl) ?_
      refine tn_ldc (w := 100000) X kl_X5_248 (by decide) dX5_isValueOfKind_55 ?_
      refine tn_gt (tgt := 64) X dX5_isValueOfKind_57 (by decide) (by omega) (by omega) (fun h57 => ?_) (fun h57 => ?_)
      · refine tn_ic (v := 0) X dX5_isValueOfKind_64 (by decide) ?_
        exact rZ ⟨(if_neg (by unfold vk; omega)).symm, rfl⟩ X hM hS hret hlk (by omega) dX5_isValueOfKind_65
      · refine tn_ic (v := 1) X dX5_isValueOfKind_60 (by decide) ?_
        refine lv_goto (tgt := 65) X.1 X.2.1 dX5_isValueOfKind_61 (by decide) ?_
        exact rZ ⟨(if_pos (by unfold vk; omega)).symm, rfl⟩ X hM hS hret hlk (by omega) dX5_isValueOfKind_65
  · refine tn_as h1 ?_
    refine tn_swI (a := 2) (tgt := 66) X dX5_isValueOfKind_1 (by decide) (by decide) (by decide) rfl (by decide) ?_
    refine lv_iload_n X.1 X.2.1 dX5_isValueOfKind_66 rfl (lv_at hl 1 rfl) ?_
    refine tn_ic (v := 2) X dX5_isValueOfKind_67 (by decide) ?_
    refine tn_lt (tgt := 81) X dX5_isValueOfKind_68 (by decide) (by omega) (by omega) (fun h68 => ?_) (fun h68 => ?_)
    · refine tn_ic (v := 0) X dX5_isValueOfKind_81 (by decide) ?_
      exact rZ ⟨(if_neg (by unfold vk; omega)).symm, rfl⟩ X hM hS hret hlk (by omega) dX5_isValueOfKind_82
    · refine lv_iload_n X.1 X.2.1 dX5_isValueOfKind_71 rfl (lv_at hl 1 rfl) ?_
      refine tn_bi (v := 9) X dX5_isValueOfKind_72 (by decide) ?_
      refine tn_gt (tgt := 81) X dX5_isValueOfKind_74 (by decide) (by omega) (by omega) (fun h74 => ?_) (fun h74 => ?_)
      · refine tn_ic (v := 0) X dX5_isValueOfKind_81 (by decide) ?_
        exact rZ ⟨(if_neg (by unfold vk; omega)).symm, rfl⟩ X hM hS hret hlk (by omega) dX5_isValueOfKind_82
      · refine tn_ic (v := 1) X dX5_isValueOfKind_77 (by decide) ?_
        refine lv_goto (tgt := 82) X.1 X.2.1 dX5_isValueOfKind_78 (by decide) ?_
        exact rZ ⟨(if_pos (by unfold vk; omega)).symm, rfl⟩ X hM hS hret hlk (by omega) dX5_isValueOfKind_82
  · refine tn_as h1 ?_
    refine tn_swI (a := 3) (tgt := 83) X dX5_isValueOfKind_1 (by decide) (by decide) (by decide) rfl (by decide) ?_
    refine lv_iload_n X.1 X.2.1 dX5_isValueOfKind_83 rfl (lv_at hl 1 rfl) ?_
    refine tn_ne0 (tgt := 91) X dX5_isValueOfKind_84 (by decide) (by omega) (fun h84 => ?_) (fun h84 => ?_)
    · refine tn_ic (v := 0) X dX5_isValueOfKind_91 (by decide) ?_
      exact rZ ⟨(if_neg (by unfold vk; omega)).symm, rfl⟩ X hM hS hret hlk (by omega) dX5_isValueOfKind_92
    · refine tn_ic (v := 1) X dX5_isValueOfKind_87 (by decide) ?_
      refine lv_goto (tgt := 92) X.1 X.2.1 dX5_isValueOfKind_88 (by decide) ?_
      exact rZ ⟨(if_pos (by unfold vk; omega)).symm, rfl⟩ X hM hS hret hlk (by omega) dX5_isValueOfKind_92
  · refine tn_swO (tgt := 93) X dX5_isValueOfKind_1 (by omega) (Or.inr (by omega)) (by decide) ?_
    refine tn_ic (v := 0) X dX5_isValueOfKind_93 (by decide) ?_
    exact rZ ⟨(if_neg (by unfold vk; omega)).symm, rfl⟩ X hM hS hret hlk (by omega) dX5_isValueOfKind_94

set_option maxHeartbeats 4000000 in
set_option maxRecDepth 100000 in
theorem c_X5_addArticle {l : Launch} {G : dG} {ν : Mm} {pr ca : Nat} (hW : WD ν) (h1 : 1 ≤ pr) (h2 : pr ≤ 10000) (h3 : ca ≤ 7) (h4 : ν 0 5 < 10) : cI l yX5_addArticle cX5_addArticle 4 (some .int) 1 G [.ref (ra G 0), .int (nI pr), .int (nI ca)] ν (fun r ν' => r = ν 0 5 ∧ ν' = up2 (up2 (up2 ν 2 (ν 0 5) pr) 3 (ν 0 5) ca) 0 5 (ν 0 5 + 1)) := by
  refine cI_of (by decide +kernel) (Nat.le_of_ble_eq_true rfl) ?_
  intro p e s m args below meth c ls X hM hret hlk hl
  have hS : dS G s.heap s.heap [] := va_S.rf
  refine lv_iload_n X.1 X.2.1 dX5_addArticle_0 rfl (lv_at hl 1 rfl) ?_
  refine kSV (As := [_]) X hM hS hl.1 (c_X5_needPrice h1 h2) kl_X5_61 mf_X5_needPrice ⟨Nat.le_of_ble_eq_true rfl, Nat.le_of_ble_eq_true rfl⟩ ⟨Nat.zero_le _, Nat.zero_le _⟩ rfl (Nat.le_of_ble_eq_true rfl) dX5_addArticle_1 (fun ν1 H locs hp1 hM hS => ?_)
  replace hp1 := hp1.symm
  subst hp1
  refine lv_iload_n X.1 X.2.1 dX5_addArticle_4 rfl (lv_at hl 2 rfl) ?_
  refine tn_lt0 (tgt := 14) X dX5_addArticle_5 (by decide) (by omega) ?_
  refine lv_iload_n X.1 X.2.1 dX5_addArticle_8 rfl (lv_at hl 2 rfl) ?_
  refine tn_bi (v := 7) X dX5_addArticle_9 (by decide) ?_
  refine tn_le (tgt := 24) X dX5_addArticle_11 (by decide) (by omega) (by omega) (fun h11 => ?_) (fun h11 => ?_)
  · refine lv_aload_n X.1 X.2.1 dX5_addArticle_24 rfl (lv_at hl 0 rfl) ?_
    refine m_get (ci := 5) (C := RX5) (T := TX5) (N := 10) X hM inA5 (by decide) (dE_desk G _) rfl 5 (by decide) kl_X5_42 rfl rfl dX5_addArticle_25 ?_
    refine tn_bi (v := 10) X dX5_addArticle_28 (by decide) ?_
    refine tn_lt (tgt := 43) X dX5_addArticle_30 (by decide) (by omega) (by omega) (fun h30 => ?_) (fun h30 => ?_)
    · refine lv_aload_n X.1 X.2.1 dX5_addArticle_43 rfl (lv_at hl 0 rfl) ?_
      refine m_get (ci := 5) (C := RX5) (T := TX5) (N := 10) X hM inA5 (by decide) (dE_desk G _) rfl 5 (by decide) kl_X5_42 rfl rfl dX5_addArticle_44 ?_
      refine lv_istore_n X.1 X.2.1 dX5_addArticle_47 rfl hl (by decide) rfl (fun ls hl => ?_)
      replace hl : lv_has ls 4 [(3, _), (0, _), (1, _), (2, _)] := hl
      refine lv_aload_n X.1 X.2.1 dX5_addArticle_48 rfl (lv_at hl 1 rfl) ?_
      refine m_get (ci := 5) (C := RX5) (T := TX5) (N := 10) X hM inA5 (by decide) (dE_desk G _) rfl 0 (by decide) kl_X5_12 rfl rfl dX5_addArticle_49 ?_
      refine m_getN (ci := 1) (C := RX1) (T := TX1) (N := 3) X hM inA1 (by have := lotB.lt lotB_1; omega) (dE_lot lotB_1 G _) rfl 0 (by decide) kl_X5_77 rfl rfl dX5_addArticle_52 ?_
      refine lv_iload_n X.1 X.2.1 dX5_addArticle_55 rfl (lv_at hl 0 rfl) ?_
      refine lv_iload_n X.1 X.2.1 dX5_addArticle_56 rfl (lv_at hl 2 rfl) ?_
      refine m_iast X hM hS (by have := lotB.lt lotB_1; omega) (fun _ => (dE_lotA lotB_1 (by decide) (by decide) G _)) (by omega) (by decide) dX5_addArticle_57 (fun H locs hM hS => ?_)
      refine lv_aload_n X.1 X.2.1 dX5_addArticle_58 rfl (lv_at hl 1 rfl) ?_
      refine m_get (ci := 5) (C := RX5) (T := TX5) (N := 10) X hM inA5 (by decide) (dE_desk G _) rfl 0 (by decide) kl_X5_12 rfl rfl dX5_addArticle_59 ?_
      refine m_getN (ci := 1) (C := RX1) (T := TX1) (N := 3) X hM inA1 (by have := lotB.lt lotB_1; omega) (dE_lot lotB_1 G _) rfl 1 (by decide) kl_X5_81 rfl rfl dX5_addArticle_62 ?_
      refine lv_iload_n X.1 X.2.1 dX5_addArticle_65 rfl (lv_at hl 0 rfl) ?_
      refine lv_iload_n X.1 X.2.1 dX5_addArticle_66 rfl (lv_at hl 3 rfl) ?_
      refine m_iast X hM hS (by have := lotB.lt lotB_1; omega) (fun _ => (dE_lotA lotB_1 (by decide) (by decide) G _)) (by omega) (by decide) dX5_addArticle_67 (fun H locs hM hS => ?_)
      refine lv_aload_n X.1 X.2.1 dX5_addArticle_68 rfl (lv_at hl 1 rfl) ?_
      refine lv_dup X.1 X.2.1 dX5_addArticle_69 rfl ?_
      refine m_get (ci := 5) (C := RX5) (T := TX5) (N := 10) X hM inA5 (by decide) (dE_desk G _) rfl 5 (by decide) kl_X5_42 rfl rfl dX5_addArticle_70 ?_
      refine tn_ic (v := 1) X dX5_addArticle_73 (by decide) ?_
      refine tn_add X dX5_addArticle_74 ?_
      refine m_put (ci := 5) (C := RX5) (T := TX5) (N := 10) X hM hS inA5 tyX5_ok nmX5 (by decide) (dE_desk G _) rfl 5 (by decide) kl_X5_42 rfl rfl (by decide +kernel) (Nat.le_of_ble_eq_true rfl) (dE_desk G _) dX5_addArticle_75 (fun H locs hM hS => ?_)
      refine lv_iload_n X.1 X.2.1 dX5_addArticle_78 rfl (lv_at hl 0 rfl) ?_
      exact rI ⟨rfl, rfl⟩ X hM hS hret hlk dX5_addArticle_79
    · exfalso; omega
  · exfalso; omega

set_option maxHeartbeats 4000000 in
set_option maxRecDepth 100000 in
theorem c_X5_put {l : Launch} {G : dG} {ν : Mm} {a n : Nat} (hW : WD ν) (ha : a < ν 0 5) (hn : n ≤ 6) : cI l yX5_put cX5_put 4 (some .int) 1 G [.ref (ra G 0), .int (nI a), .int (nI n)] ν (fun r ν' => r = ν 4 a ∧ ν' = up2 ν 4 a n) := by
  refine cI_of (by decide +kernel) (Nat.le_of_ble_eq_true rfl) ?_
  intro p e s m args below meth c ls X hM hret hlk hl
  have hS : dS G s.heap s.heap [] := va_S.rf
  have := hW.na
  refine lv_aload_n X.1 X.2.1 dX5_put_0 rfl (lv_at hl 0 rfl) ?_
  refine lv_iload_n X.1 X.2.1 dX5_put_1 rfl (lv_at hl 1 rfl) ?_
  refine kVV (As := [_]) X hM hS hl.1 (c_X5_needArticle hW ha) (by decide) (dE_desk G _) rfl rfl kl_X5_84 mf_X5_needArticle ⟨Nat.le_of_ble_eq_true rfl, Nat.le_of_ble_eq_true rfl⟩ ⟨Nat.zero_le _, Nat.zero_le _⟩ rfl (Nat.le_of_ble_eq_true rfl) dX5_put_2 (fun ν2 H locs hp2 hM hS => ?_)
  replace hp2 := hp2.symm
  subst hp2
  refine lv_iload_n X.1 X.2.1 dX5_put_5 rfl (lv_at hl 2 rfl) ?_
  refine tn_lt0 (tgt := 15) X dX5_put_6 (by decide) (by omega) ?_
  refine lv_iload_n X.1 X.2.1 dX5_put_9 rfl (lv_at hl 2 rfl) ?_
  refine tn_bi (v := 6) X dX5_put_10 (by decide) ?_
  refine tn_le (tgt := 25) X dX5_put_12 (by decide) (by omega) (by omega) (fun h12 => ?_) (fun h12 => ?_)
  · refine lv_aload_n X.1 X.2.1 dX5_put_25 rfl (lv_at hl 0 rfl) ?_
    refine m_get (ci := 5) (C := RX5) (T := TX5) (N := 10) X hM inA5 (by decide) (dE_desk G _) rfl 0 (by decide) kl_X5_12 rfl rfl dX5_put_26 ?_
    refine m_getN (ci := 1) (C := RX1) (T := TX1) (N := 3) X hM inA1 (by have := lotB.lt lotB_1; omega) (dE_lot lotB_1 G _) rfl 2 (by decide) kl_X5_89 rfl rfl dX5_put_29 ?_
    refine lv_iload_n X.1 X.2.1 dX5_put_32 rfl (lv_at hl 1 rfl) ?_
    refine m_iald X hM (by have := lotB.lt lotB_1; omega) (dE_lotA lotB_1 (by decide) (by decide) G _) (by omega) (by decide) dX5_put_33 ?_
    refine lv_istore_n X.1 X.2.1 dX5_put_34 rfl hl (by decide) rfl (fun ls hl => ?_)
    replace hl : lv_has ls 4 [(3, _), (0, _), (1, _), (2, _)] := hl
    refine lv_aload_n X.1 X.2.1 dX5_put_35 rfl (lv_at hl 1 rfl) ?_
    refine m_get (ci := 5) (C := RX5) (T := TX5) (N := 10) X hM inA5 (by decide) (dE_desk G _) rfl 0 (by decide) kl_X5_12 rfl rfl dX5_put_36 ?_
    refine m_getN (ci := 1) (C := RX1) (T := TX1) (N := 3) X hM inA1 (by have := lotB.lt lotB_1; omega) (dE_lot lotB_1 G _) rfl 2 (by decide) kl_X5_89 rfl rfl dX5_put_39 ?_
    refine lv_iload_n X.1 X.2.1 dX5_put_42 rfl (lv_at hl 2 rfl) ?_
    refine lv_iload_n X.1 X.2.1 dX5_put_43 rfl (lv_at hl 3 rfl) ?_
    refine m_iast X hM hS (by have := lotB.lt lotB_1; omega) (fun _ => (dE_lotA lotB_1 (by decide) (by decide) G _)) (by omega) (by decide) dX5_put_44 (fun H locs hM hS => ?_)
    refine lv_iload_n X.1 X.2.1 dX5_put_45 rfl (lv_at hl 0 rfl) ?_
    exact rI ⟨rfl, rfl⟩ X hM hS hret hlk dX5_put_46
  · exfalso; omega

set_option maxHeartbeats 4000000 in
set_option maxRecDepth 100000 in
theorem c_X5_value {l : Launch} {G : dG} {ν : Mm} (hW : WD ν) : cI l yX5_value cX5_value 1 (some .int) 1 G [.ref (ra G 0)] ν (fun r ν' => r = pin ν 1 255 10 ∧ ν' = ν) := by
  refine cI_of (by decide +kernel) (Nat.le_of_ble_eq_true rfl) ?_
  intro p e s m args below meth c ls X hM hret hlk hl
  have hS : dS G s.heap s.heap [] := va_S.rf
  refine lv_aload_n X.1 X.2.1 dX5_value_0 rfl (lv_at hl 0 rfl) ?_
  refine m_get (ci := 5) (C := RX5) (T := TX5) (N := 10) X hM inA5 (by decide) (dE_desk G _) rfl 0 (by decide) kl_X5_12 rfl rfl dX5_value_1 ?_
  refine tn_si (v := 255) X dX5_value_4 (by decide) ?_
  refine kNI (As := [_]) X hM hS hl.1 (c_X1_pricesIn lotB_1 (by decide) (hW.cC lotB_1)) (by have := lotB.lt lotB_1; omega) (dE_lot lotB_1 G _) rfl rfl kl_X5_92 mf_X1_pricesIn ⟨Nat.le_of_ble_eq_true rfl, Nat.le_of_ble_eq_true rfl⟩ ⟨Nat.zero_le _, Nat.zero_le _⟩ rfl (Nat.le_of_ble_eq_true rfl) dX5_value_7 (fun r7 ν7 H locs hp7 hM hS => ?_)
  obtain ⟨rfl, e7⟩ := hp7
  replace e7 := e7.symm
  subst e7
  exact rI ⟨rfl, rfl⟩ X hM hS hret hlk dX5_value_10

set_option maxHeartbeats 4000000 in
set_option maxRecDepth 100000 in
theorem c_X5_setShipping {l : Launch} {G : dG} {ν : Mm} {fe li : Nat} (h1 : fe ≤ 10000) (h2 : li ≤ 1000000) : cI l yX5_setShipping cX5_setShipping 4 (some .int) 0 G [.ref (ra G 0), .int (nI fe), .int (nI li)] ν (fun r ν' => r = ν 0 8 ∧ ν' = up2 (up2 ν 0 8 fe) 0 9 li) := by
  refine cI_of (by decide +kernel) (Nat.le_of_ble_eq_true rfl) ?_
  intro p e s m args below meth c ls X hM hret hlk hl
  have hS : dS G s.heap s.heap [] := va_S.rf
  refine lv_iload_n X.1 X.2.1 dX5_setShipping_0 rfl (lv_at hl 1 rfl) ?_
  refine tn_lt0 (tgt := 11) X dX5_setShipping_1 (by decide) (by omega) ?_
  refine lv_iload_n X.1 X.2.1 dX5_setShipping_4 rfl (lv_at hl 1 rfl) ?_
  refine tn_si (v := 10000) X dX5_setShipping_5 (by decide) ?_
  refine tn_le (tgt := 21) X dX5_setShipping_8 (by decide) (by omega) (by omega) (fun h8 => ?_) (fun h8 => ?_)
  · refine lv_iload_n X.1 X.2.1 dX5_setShipping_21 rfl (lv_at hl 2 rfl) ?_
    refine tn_lt0 (tgt := 31) X dX5_setShipping_22 (by decide) (by omega) ?_
    refine lv_iload_n X.1 X.2.1 dX5_setShipping_25 rfl (lv_at hl 2 rfl) ?_
    refine tn_ldc (w := 1000000) X kl_X5_55 (by decide) dX5_setShipping_26 ?_
    refine tn_le (tgt := 41) X dX5_setShipping_28 (by decide) (by omega) (by omega) (fun h28 => ?_) (fun h28 => ?_)
    · refine lv_aload_n X.1 X.2.1 dX5_setShipping_41 rfl (lv_at hl 0 rfl) ?_
      refine m_get (ci := 5) (C := RX5) (T := TX5) (N := 10) X hM inA5 (by decide) (dE_desk G _) rfl 8 (by decide) kl_X5_52 rfl rfl dX5_setShipping_42 ?_
      refine lv_istore_n X.1 X.2.1 dX5_setShipping_45 rfl hl (by decide) rfl (fun ls hl => ?_)
      replace hl : lv_has ls 4 [(3, _), (0, _), (1, _), (2, _)] := hl
      refine lv_aload_n X.1 X.2.1 dX5_setShipping_46 rfl (lv_at hl 1 rfl) ?_
      refine lv_iload_n X.1 X.2.1 dX5_setShipping_47 rfl (lv_at hl 2 rfl) ?_
      refine m_put (ci := 5) (C := RX5) (T := TX5) (N := 10) X hM hS inA5 tyX5_ok nmX5 (by decide) (dE_desk G _) rfl 8 (by decide) kl_X5_52 rfl rfl (by decide +kernel) (Nat.le_of_ble_eq_true rfl) (dE_desk G _) dX5_setShipping_48 (fun H locs hM hS => ?_)
      refine lv_aload_n X.1 X.2.1 dX5_setShipping_51 rfl (lv_at hl 1 rfl) ?_
      refine lv_iload_n X.1 X.2.1 dX5_setShipping_52 rfl (lv_at hl 3 rfl) ?_
      refine m_put (ci := 5) (C := RX5) (T := TX5) (N := 10) X hM hS inA5 tyX5_ok nmX5 (by decide) (dE_desk G _) rfl 9 (by decide) kl_X5_56 rfl rfl (by decide +kernel) (Nat.le_of_ble_eq_true rfl) (dE_desk G _) dX5_setShipping_53 (fun H locs hM hS => ?_)
      refine lv_iload_n X.1 X.2.1 dX5_setShipping_56 rfl (lv_at hl 0 rfl) ?_
      exact rI ⟨rfl, rfl⟩ X hM hS hret hlk dX5_setShipping_57
    · exfalso; omega
  · exfalso; omega

set_option maxHeartbeats 4000000 in
set_option maxRecDepth 100000 in
theorem c_X5_addCoupon {l : Launch} {G : dG} {ν : Mm} {kd v cs mi gr : Nat} (hW : WD ν) (h1 : vk kd v) (h2 : 1 ≤ cs) (h3 : cs ≤ 255) (h4 : mi ≤ 1000000) (h5 : gr ≤ 3) (h6 : ν 0 6 < 8) : cI l yX5_addCoupon cX5_addCoupon 7 (some .int) 1 G [.ref (ra G 0), .int (nI kd), .int (nI v), .int (nI cs), .int (nI mi), .int (nI gr)] ν (fun r ν' => r = ν 0 6 ∧ ν' = up2 (up2 (up2 (up2 (up2 (up2 (up2 ν (22 + ν 0 6) 0 kd) (22 + ν 0 6) 1 v) (22 + ν 0 6) 2 cs) (22 + ν 0 6) 3 mi) (22 + ν 0 6) 4 gr) (22 + ν 0 6) 5 9) 0 6 (ν 0 6 + 1)) := by
  refine cI_of (by decide +kernel) (Nat.le_of_ble_eq_true rfl) ?_
  intro p e s m args below meth c ls X hM hret hlk hl
  have hS : dS G s.heap s.heap [] := va_S.rf
  have hv9 : kd ≤ 3 ∧ v ≤ 100000 := by unfold vk at h1; omega
  have h5g := h5
  refine lv_iload_n X.1 X.2.1 dX5_addCoupon_0 rfl (lv_at hl 1 rfl) ?_
  refine lv_iload_n X.1 X.2.1 dX5_addCoupon_1 rfl (lv_at hl 2 rfl) ?_
  refine kSI (As := [_, _]) X hM hS hl.1 (c_X5_isValueOfKind (by omega) (by omega)) kl_X5_100 mf_X5_isValueOfKind ⟨Nat.le_of_ble_eq_true rfl, Nat.le_of_ble_eq_true rfl⟩ ⟨Nat.zero_le _, Nat.zero_le _⟩ rfl (Nat.le_of_ble_eq_true rfl) dX5_addCoupon_2 (fun r2 ν2 H locs hp2 hM hS => ?_)
  obtain ⟨rfl, e2⟩ := hp2
  replace e2 := e2.symm
  subst e2
  refine tn_ne0 (tgt := 18) X dX5_addCoupon_5 (by decide) (by split <;> decide) (fun h5 => ?_) (fun h5 => ?_)
  · refine lv_iload_n X.1 X.2.1 dX5_addCoupon_18 rfl (lv_at hl 3 rfl) ?_
    refine tn_ic (v := 1) X dX5_addCoupon_19 (by decide) ?_
    refine tn_lt (tgt := 30) X dX5_addCoupon_20 (by decide) (by omega) (by omega) (fun h20 => ?_) (fun h20 => ?_)
    · exfalso; omega
    · refine lv_iload_n X.1 X.2.1 dX5_addCoupon_23 rfl (lv_at hl 3 rfl) ?_
      refine tn_si (v := 255) X dX5_addCoupon_24 (by decide) ?_
      refine tn_le (tgt := 40) X dX5_addCoupon_27 (by decide) (by omega) (by omega) (fun h27 => ?_) (fun h27 => ?_)
      · refine lv_iload X.1 X.2.1 dX5_addCoupon_40 (lv_at hl 4 rfl) ?_
        refine tn_lt0 (tgt := 52) X dX5_addCoupon_42 (by decide) (by omega) ?_
        refine lv_iload X.1 X.2.1 dX5_addCoupon_45 (lv_at hl 4 rfl) ?_
        refine tn_ldc (w := 1000000) X kl_X5_55 (by decide) dX5_addCoupon_47 ?_
        refine tn_le (tgt := 62) X dX5_addCoupon_49 (by decide) (by omega) (by omega) (fun h49 => ?_) (fun h49 => ?_)
        · refine lv_iload X.1 X.2.1 dX5_addCoupon_62 (lv_at hl 5 rfl) ?_
          refine tn_lt0 (tgt := 73) X dX5_addCoupon_64 (by decide) (by omega) ?_
          refine lv_iload X.1 X.2.1 dX5_addCoupon_67 (lv_at hl 5 rfl) ?_
          refine tn_ic (v := 3) X dX5_addCoupon_69 (by decide) ?_
          refine tn_le (tgt := 83) X dX5_addCoupon_70 (by decide) (by omega) (by omega) (fun h70 => ?_) (fun h70 => ?_)
          · refine lv_aload_n X.1 X.2.1 dX5_addCoupon_83 rfl (lv_at hl 0 rfl) ?_
            refine m_get (ci := 5) (C := RX5) (T := TX5) (N := 10) X hM inA5 (by decide) (dE_desk G _) rfl 6 (by decide) kl_X5_46 rfl rfl dX5_addCoupon_84 ?_
            refine tn_bi (v := 8) X dX5_addCoupon_87 (by decide) ?_
            refine tn_lt (tgt := 102) X dX5_addCoupon_89 (by decide) (by omega) (by omega) (fun h89 => ?_) (fun h89 => ?_)
            · refine lv_aload_n X.1 X.2.1 dX5_addCoupon_102 rfl (lv_at hl 0 rfl) ?_
              refine m_get (ci := 5) (C := RX5) (T := TX5) (N := 10) X hM inA5 (by decide) (dE_desk G _) rfl 6 (by decide) kl_X5_46 rfl rfl dX5_addCoupon_103 ?_
              refine lv_istore X.1 X.2.1 dX5_addCoupon_106 hl (by decide) rfl (fun ls hl => ?_)
              replace hl : lv_has ls 7 [(6, _), (0, _), (1, _), (2, _), (3, _), (4, _), (5, _)] := hl
              refine lv_aload_n X.1 X.2.1 dX5_addCoupon_108 rfl (lv_at hl 1 rfl) ?_
              refine m_get (ci := 5) (C := RX5) (T := TX5) (N := 10) X hM inA5 (by decide) (dE_desk G _) rfl 1 (by decide) kl_X5_18 rfl rfl dX5_addCoupon_109 ?_
              refine lv_iload X.1 X.2.1 dX5_addCoupon_112 (lv_at hl 0 rfl) ?_
              refine m_aald 1 rfl X hM (by decide) (dE_coupons G _) rfl h6 (by decide) dX5_addCoupon_114 ?_
              refine lv_iload_n X.1 X.2.1 dX5_addCoupon_115 rfl (lv_at hl 2 rfl) ?_
              refine lv_iload_n X.1 X.2.1 dX5_addCoupon_116 rfl (lv_at hl 3 rfl) ?_
              refine lv_iload_n X.1 X.2.1 dX5_addCoupon_117 rfl (lv_at hl 4 rfl) ?_
              refine lv_iload X.1 X.2.1 dX5_addCoupon_118 (lv_at hl 5 rfl) ?_
              refine lv_iload X.1 X.2.1 dX5_addCoupon_120 (lv_at hl 6 rfl) ?_
              refine kNV (As := [_, _, _, _, _]) X hM hS hl.1 (c_X0_become (show ν 0 6 < 8 by omega)) (by omega) (dE_cou h6 G _) rfl rfl kl_X5_114 mf_X0_become ⟨Nat.le_of_ble_eq_true rfl, Nat.le_of_ble_eq_true rfl⟩ ⟨Nat.zero_le _, Nat.zero_le _⟩ rfl (Nat.le_of_ble_eq_true rfl) dX5_addCoupon_122 (fun ν122 H locs hp122 hM hS => ?_)
              replace hp122 := hp122.symm
              subst hp122
              refine lv_aload_n X.1 X.2.1 dX5_addCoupon_125 rfl (lv_at hl 1 rfl) ?_
              have e06 : up2 (up2 (up2 (up2 (up2 (up2 ν (22 + ν 0 6) 0 kd) (22 + ν 0 6) 1 v) (22 + ν 0 6) 2 cs) (22 + ν 0 6) 3 mi) (22 + ν 0 6) 4 gr) (22 + ν 0 6) 5 9 0 6 = ν 0 6 := by simp [up2_if]
              refine lv_dup X.1 X.2.1 dX5_addCoupon_126 rfl ?_
              refine m_get (ci := 5) (C := RX5) (T := TX5) (N := 10) X hM inA5 (by decide) (dE_desk G _) rfl 6 (by decide) kl_X5_46 rfl rfl dX5_addCoupon_127 ?_
              refine tn_as e06 ?_
              refine tn_ic (v := 1) X dX5_addCoupon_130 (by decide) ?_
              refine tn_add X dX5_addCoupon_131 ?_
              refine m_put (ci := 5) (C := RX5) (T := TX5) (N := 10) X hM hS inA5 tyX5_ok nmX5 (by decide) (dE_desk G _) rfl 6 (by decide) kl_X5_46 rfl rfl (by decide +kernel) (Nat.le_of_ble_eq_true rfl) (dE_desk G _) dX5_addCoupon_132 (fun H locs hM hS => ?_)
              refine lv_iload X.1 X.2.1 dX5_addCoupon_135 (lv_at hl 0 rfl) ?_
              exact rI ⟨rfl, rfl⟩ X hM hS hret hlk dX5_addCoupon_137
            · exfalso; omega
          · exfalso; omega
        · exfalso; omega
      · exfalso; omega
  · exact absurd h1 (ite0 h5)

set_option maxHeartbeats 4000000 in
set_option maxRecDepth 100000 in
theorem c_X5_isAllowed {l : Launch} {G : dG} {ν : Mm} {st : Nat} (hW : WD ν) (hs : st < 2 ^ ν 0 6) : cI l yX5_isAllowed cX5_isAllowed 2 (some .boolean) 4 G [.ref (ra G 0), .int (nI st)] ν (fun r ν' => r = (if al ν st = true then 1 else 0) ∧ ν' = ν) := by
  refine cI_of (by decide +kernel) (Nat.le_of_ble_eq_true rfl) ?_
  intro p e s m args below meth c ls X hM hret hlk hl
  have hS : dS G s.heap s.heap [] := va_S.rf
  have h256 := pow8 hW.nc
  refine lv_aload_n X.1 X.2.1 dX5_isAllowed_0 rfl (lv_at hl 0 rfl) ?_
  refine lv_iload_n X.1 X.2.1 dX5_isAllowed_1 rfl (lv_at hl 1 rfl) ?_
  refine kVV (As := [_]) X hM hS hl.1 (c_X5_needCoupons hW hs) (by decide) (dE_desk G _) rfl rfl kl_X5_141 mf_X5_needCoupons ⟨Nat.le_of_ble_eq_true rfl, Nat.le_of_ble_eq_true rfl⟩ ⟨Nat.zero_le _, Nat.zero_le _⟩ rfl (Nat.le_of_ble_eq_true rfl) dX5_isAllowed_2 (fun ν2 H locs hp2 hM hS => ?_)
  replace hp2 := hp2.symm
  subst hp2
  refine lv_aload_n X.1 X.2.1 dX5_isAllowed_5 rfl (lv_at hl 0 rfl) ?_
  refine lv_iload_n X.1 X.2.1 dX5_isAllowed_6 rfl (lv_at hl 1 rfl) ?_
  refine kVI (As := [_]) X hM hS hl.1 (c_X5_isSetAllowed hW (by omega)) (by decide) (dE_desk G _) rfl rfl kl_X5_144 mf_X5_isSetAllowed ⟨Nat.le_of_ble_eq_true rfl, Nat.le_of_ble_eq_true rfl⟩ ⟨Nat.zero_le _, Nat.zero_le _⟩ rfl (Nat.le_of_ble_eq_true rfl) dX5_isAllowed_7 (fun r7 ν7 H locs hp7 hM hS => ?_)
  obtain ⟨rfl, e7⟩ := hp7
  replace e7 := e7.symm
  subst e7
  exact rZ ⟨rfl, rfl⟩ X hM hS hret hlk (by split <;> simp) dX5_isAllowed_10

set_option maxHeartbeats 4000000 in
set_option maxRecDepth 100000 in
theorem c_X5_goods {l : Launch} {G : dG} {ν : Mm} {st : Nat} (hW : WD ν) (hs : st < 2 ^ ν 0 6) (hal : al ν st = true) : cI l yX5_goods cX5_goods 2 (some .int) 6 G [.ref (ra G 0), .int (nI st)] ν (fun r ν' => r = gdF ν 1 st ∧ dsk ν ν') := by
  refine cI_of (by decide +kernel) (Nat.le_of_ble_eq_true rfl) ?_
  intro p e s m args below meth c ls X hM hret hlk hl
  have hS : dS G s.heap s.heap [] := va_S.rf
  have h256 := pow8 hW.nc
  refine lv_aload_n X.1 X.2.1 dX5_goods_0 rfl (lv_at hl 0 rfl) ?_
  refine lv_iload_n X.1 X.2.1 dX5_goods_1 rfl (lv_at hl 1 rfl) ?_
  refine kVV (As := [_]) X hM hS hl.1 (c_X5_needCoupons hW hs) (by decide) (dE_desk G _) rfl rfl kl_X5_141 mf_X5_needCoupons ⟨Nat.le_of_ble_eq_true rfl, Nat.le_of_ble_eq_true rfl⟩ ⟨Nat.zero_le _, Nat.zero_le _⟩ rfl (Nat.le_of_ble_eq_true rfl) dX5_goods_2 (fun ν2 H locs hp2 hM hS => ?_)
  replace hp2 := hp2.symm
  subst hp2
  refine lv_aload_n X.1 X.2.1 dX5_goods_5 rfl (lv_at hl 0 rfl) ?_
  refine lv_iload_n X.1 X.2.1 dX5_goods_6 rfl (lv_at hl 1 rfl) ?_
  refine kVV (As := [_]) X hM hS hl.1 (c_X5_needAllowed hW (by omega) hal) (by decide) (dE_desk G _) rfl rfl kl_X5_148 mf_X5_needAllowed ⟨Nat.le_of_ble_eq_true rfl, Nat.le_of_ble_eq_true rfl⟩ ⟨Nat.zero_le _, Nat.zero_le _⟩ rfl (Nat.le_of_ble_eq_true rfl) dX5_goods_7 (fun ν7 H locs hp7 hM hS => ?_)
  replace hp7 := hp7.symm
  subst hp7
  refine lv_aload_n X.1 X.2.1 dX5_goods_10 rfl (lv_at hl 0 rfl) ?_
  refine lv_aload_n X.1 X.2.1 dX5_goods_11 rfl (lv_at hl 0 rfl) ?_
  refine m_get (ci := 5) (C := RX5) (T := TX5) (N := 10) X hM inA5 (by decide) (dE_desk G _) rfl 0 (by decide) kl_X5_12 rfl rfl dX5_goods_12 ?_
  refine lv_iload_n X.1 X.2.1 dX5_goods_15 rfl (lv_at hl 1 rfl) ?_
  refine kVI (As := [_, _]) X hM hS hl.1 (c_X5_goodsOf hW lotB_1 (by omega)) (by decide) (dE_desk G _) rfl rfl kl_X5_151 mf_X5_goodsOf ⟨Nat.le_of_ble_eq_true rfl, Nat.le_of_ble_eq_true rfl⟩ ⟨Nat.zero_le _, Nat.zero_le _⟩ rfl (Nat.le_of_ble_eq_true rfl) dX5_goods_16 (fun r16 ν16 H locs hp16 hM hS => ?_)
  obtain ⟨rfl, hgo16⟩ := hp16
  exact rI ⟨rfl, hgo16.1⟩ X hM hS hret hlk dX5_goods_19

set_option maxHeartbeats 4000000 in
set_option maxRecDepth 100000 in
theorem c_X5_total {l : Launch} {G : dG} {ν : Mm} {st : Nat} (hW : WD ν) (hs : st < 2 ^ ν 0 6) (hal : al ν st = true) : cI l yX5_total cX5_total 3 (some .int) 6 G [.ref (ra G 0), .int (nI st)] ν (fun r ν' => r = gdF ν 1 st + feF ν st (gdF ν 1 st) ∧ dsk ν ν') := by
  refine cI_of (by decide +kernel) (Nat.le_of_ble_eq_true rfl) ?_
  intro p e s m args below meth c ls X hM hret hlk hl
  have hS : dS G s.heap s.heap [] := va_S.rf
  have h256 := pow8 hW.nc
  have hgl := gdF_le hW lotB_1 st
  refine lv_aload_n X.1 X.2.1 dX5_total_0 rfl (lv_at hl 0 rfl) ?_
  refine lv_iload_n X.1 X.2.1 dX5_total_1 rfl (lv_at hl 1 rfl) ?_
  refine kVV (As := [_]) X hM hS hl.1 (c_X5_needCoupons hW hs) (by decide) (dE_desk G _) rfl rfl kl_X5_141 mf_X5_needCoupons ⟨Nat.le_of_ble_eq_true rfl, Nat.le_of_ble_eq_true rfl⟩ ⟨Nat.zero_le _, Nat.zero_le _⟩ rfl (Nat.le_of_ble_eq_true rfl) dX5_total_2 (fun ν2 H locs hp2 hM hS => ?_)
  replace hp2 := hp2.symm
  subst hp2
  refine lv_aload_n X.1 X.2.1 dX5_total_5 rfl (lv_at hl 0 rfl) ?_
  refine lv_iload_n X.1 X.2.1 dX5_total_6 rfl (lv_at hl 1 rfl) ?_
  refine kVV (As := [_]) X hM hS hl.1 (c_X5_needAllowed hW (by omega) hal) (by decide) (dE_desk G _) rfl rfl kl_X5_148 mf_X5_needAllowed ⟨Nat.le_of_ble_eq_true rfl, Nat.le_of_ble_eq_true rfl⟩ ⟨Nat.zero_le _, Nat.zero_le _⟩ rfl (Nat.le_of_ble_eq_true rfl) dX5_total_7 (fun ν7 H locs hp7 hM hS => ?_)
  replace hp7 := hp7.symm
  subst hp7
  refine lv_aload_n X.1 X.2.1 dX5_total_10 rfl (lv_at hl 0 rfl) ?_
  refine lv_aload_n X.1 X.2.1 dX5_total_11 rfl (lv_at hl 0 rfl) ?_
  refine m_get (ci := 5) (C := RX5) (T := TX5) (N := 10) X hM inA5 (by decide) (dE_desk G _) rfl 0 (by decide) kl_X5_12 rfl rfl dX5_total_12 ?_
  refine lv_iload_n X.1 X.2.1 dX5_total_15 rfl (lv_at hl 1 rfl) ?_
  refine kVI (As := [_, _]) X hM hS hl.1 (c_X5_goodsOf hW lotB_1 (by omega)) (by decide) (dE_desk G _) rfl rfl kl_X5_151 mf_X5_goodsOf ⟨Nat.le_of_ble_eq_true rfl, Nat.le_of_ble_eq_true rfl⟩ ⟨Nat.zero_le _, Nat.zero_le _⟩ rfl (Nat.le_of_ble_eq_true rfl) dX5_total_16 (fun r16 ν16 H locs hp16 hM hS => ?_)
  obtain ⟨rfl, hgo16⟩ := hp16
  refine lv_istore_n X.1 X.2.1 dX5_total_19 rfl hl (by decide) rfl (fun ls hl => ?_)
  replace hl : lv_has ls 3 [(2, _), (0, _), (1, _)] := hl
  refine lv_iload_n X.1 X.2.1 dX5_total_20 rfl (lv_at hl 0 rfl) ?_
  refine lv_aload_n X.1 X.2.1 dX5_total_21 rfl (lv_at hl 1 rfl) ?_
  refine lv_iload_n X.1 X.2.1 dX5_total_22 rfl (lv_at hl 2 rfl) ?_
  refine lv_iload_n X.1 X.2.1 dX5_total_23 rfl (lv_at hl 0 rfl) ?_
  refine kVI (As := [_, _]) X hM hS hl.1 (c_X5_feeFor (hgo16.1.WD hW) (by omega) (by omega)) (by decide) (dE_desk G _) rfl rfl kl_X5_155 mf_X5_feeFor ⟨Nat.le_of_ble_eq_true rfl, Nat.le_of_ble_eq_true rfl⟩ ⟨Nat.zero_le _, Nat.zero_le _⟩ rfl (Nat.le_of_ble_eq_true rfl) dX5_total_24 (fun r24 ν24 H locs hp24 hM hS => ?_)
  obtain ⟨rfl, e24⟩ := hp24
  replace e24 := e24.symm
  subst e24
  refine tn_add X dX5_total_27 ?_
  exact rI ⟨by rw [hgo16.1.feF], hgo16.1⟩ X hM hS hret hlk dX5_total_28

set_option maxHeartbeats 4000000 in
set_option maxRecDepth 100000 in
theorem c_X5_searchSets {l : Launch} {G : dG} {ν : Mm} {lo : Nat} (hW : WD ν) : cV l yX5_searchSets cX5_searchSets 2 14 G [.ref (ra G 0), .int (nI lo)] ν (fun ν' => dsk ν ν' ∧ s3 ν' = srch ν lo) := by
  refine cV_of (by decide +kernel) (Nat.le_of_ble_eq_true rfl) ?_
  intro p e s m args below meth c ls X hM hret hlk hl
  have hS : dS G s.heap s.heap [] := va_S.rf
  have hub : ubF ν (ν 0 6) < 256 := Nat.lt_of_lt_of_le (ubF_lt _) (pow8 hW.nc)
  refine lv_aload_n X.1 X.2.1 dX5_searchSets_0 rfl (lv_at hl 0 rfl) ?_
  refine m_get (ci := 5) (C := RX5) (T := TX5) (N := 10) X hM inA5 (by decide) (dE_desk G _) rfl 4 (by decide) kl_X5_38 rfl rfl dX5_searchSets_1 ?_
  refine lv_iload_n X.1 X.2.1 dX5_searchSets_4 rfl (lv_at hl 1 rfl) ?_
  refine lv_aload_n X.1 X.2.1 dX5_searchSets_5 rfl (lv_at hl 0 rfl) ?_
  refine kVI (As := []) X hM hS hl.1 (c_X5_usableForBasket hW) (by decide) (dE_desk G _) rfl rfl kl_X5_278 mf_X5_usableForBasket ⟨Nat.le_of_ble_eq_true rfl, Nat.le_of_ble_eq_true rfl⟩ ⟨Nat.zero_le _, Nat.zero_le _⟩ rfl (Nat.le_of_ble_eq_true rfl) dX5_searchSets_6 (fun r6 ν6 H locs hp6 hM hS => ?_)
  obtain ⟨rfl, e6⟩ := hp6
  replace e6 := e6.symm
  subst e6
  refine kNV (As := [_, _]) X hM hS hl.1 (c_X3_begin) (by decide) (dE_search G _) rfl rfl kl_X5_281 mf_X3_begin ⟨Nat.le_of_ble_eq_true rfl, Nat.le_of_ble_eq_true rfl⟩ ⟨Nat.zero_le _, Nat.zero_le _⟩ rfl (Nat.le_of_ble_eq_true rfl) dX5_searchSets_9 (fun ν9 H locs hp9 hM hS => ?_)
  replace hp9 := hp9.symm
  subst hp9
  have hdb : dsk ν (up2 (up2 (up2 (up2 (up2 ν 21 0 lo) 21 1 (ubF ν (ν 0 6))) 21 2 0) 21 3 610001) 21 4 610001) := fun i hi => by rw [up2_ne (by omega), up2_ne (by omega), up2_ne (by omega), up2_ne (by omega), up2_ne (by omega)]
  have hWb := hdb.WD hW
  refine lv_aload_n X.1 X.2.1 dX5_searchSets_12 rfl (lv_at hl 0 rfl) ?_
  refine m_get (ci := 5) (C := RX5) (T := TX5) (N := 10) X hM inA5 (by decide) (dE_desk G _) rfl 3 (by decide) kl_X5_31 rfl rfl dX5_searchSets_13 ?_
  refine lv_aload_n X.1 X.2.1 dX5_searchSets_16 rfl (lv_at hl 0 rfl) ?_
  refine m_get (ci := 5) (C := RX5) (T := TX5) (N := 10) X hM inA5 (by decide) (dE_desk G _) rfl 0 (by decide) kl_X5_12 rfl rfl dX5_searchSets_17 ?_
  refine kNV (As := [_]) X hM hS hl.1 (c_X4_lay lotB_1 (hWb.c6 lotB_1)) (by decide) (dE_tray G _) rfl rfl kl_X5_261 mf_X4_lay ⟨Nat.le_of_ble_eq_true rfl, Nat.le_of_ble_eq_true rfl⟩ ⟨Nat.zero_le _, Nat.zero_le _⟩ rfl (Nat.le_of_ble_eq_true rfl) dX5_searchSets_20 (fun ν20 H locs hp20 hM hS => ?_)
  obtain ⟨g1, g2, g3, g4⟩ := hp20
  have hds : dsk ν ν20 := hdb.trans (fun i hi => g3 i (by omega) (by omega) (by omega) (by omega))
  have e21 : ν20 21 = (up2 (up2 (up2 (up2 (up2 ν 21 0 lo) 21 1 (ubF ν (ν 0 6))) 21 2 0) 21 3 610001) 21 4 610001) 21 := g3 21 (by decide) (by decide) (by decide) (by decide)
  have hO : sOK ν20 := by unfold sOK; rw [e21]; simp [up2_if]; omega
  have hT : TL ν 1 ν20 := ⟨by rw [g1, hdb.cnt lotB_1], fun j hj => by have := g4 j (by rw [hdb.cnt lotB_1]; exact hj); rw [this.1, this.2.1, hdb.pcA lotB_1, hdb.l lotB_1 (by decide)]; exact ⟨rfl, rfl⟩⟩
  have hrow : ∀ j, j < cnt ν 1 10 → ν20 (11 + 0) j = f0L ν 1 j := fun j hj => by have := g4 j (by rw [hdb.cnt lotB_1]; exact hj); rw [this.2.2, hdb.pcA lotB_1, hdb.l lotB_1 (by decide)]; rfl
  refine lv_aload_n X.1 X.2.1 dX5_searchSets_23 rfl (lv_at hl 0 rfl) ?_
  refine tn_ic (v := 0) X dX5_searchSets_24 (by decide) ?_
  refine tn_ic (v := 0) X dX5_searchSets_25 (by decide) ?_
  refine tn_ic (v := 0) X dX5_searchSets_26 (by decide) ?_
  refine kSV (As := [_, _, _, _]) X hM hS hl.1 (c_X5_extend (σ := ν) 8 (dp := 0) (f := f0L ν 1) rfl hds hW (by decide) (by decide) hO hT hrow (fun j _ => f0_le hW lotB_1 j)) kl_X5_285 mf_X5_extend ⟨Nat.le_of_ble_eq_true rfl, Nat.le_of_ble_eq_true rfl⟩ ⟨Nat.zero_le _, Nat.zero_le _⟩ rfl (Nat.le_of_ble_eq_true rfl) dX5_searchSets_27 (fun ν27 H locs hp27 hM hS => ?_)
  exact rV ⟨hds.trans hp27.1.dsk, by rw [hp27.2, e21]; unfold s3; rw [e21]; simp only [up2_if]; simp; rfl⟩ X hM hS hret hlk dX5_searchSets_30

set_option maxHeartbeats 4000000 in
set_option maxRecDepth 100000 in
theorem c_X5_best {l : Launch} {G : dG} {ν : Mm} (hW : WD ν) : cI l yX5_best cX5_best 1 (some .int) 15 G [.ref (ra G 0)] ν (fun r ν' => r = (srch ν 0).1 ∧ dsk ν ν') := by
  refine cI_of (by decide +kernel) (Nat.le_of_ble_eq_true rfl) ?_
  intro p e s m args below meth c ls X hM hret hlk hl
  have hS : dS G s.heap s.heap [] := va_S.rf
  refine lv_aload_n X.1 X.2.1 dX5_best_0 rfl (lv_at hl 0 rfl) ?_
  refine tn_ic (v := 0) X dX5_best_1 (by decide) ?_
  refine kVV (As := [_]) X hM hS hl.1 (c_X5_searchSets hW) (by decide) (dE_desk G _) rfl rfl kl_X5_165 mf_X5_searchSets ⟨Nat.le_of_ble_eq_true rfl, Nat.le_of_ble_eq_true rfl⟩ ⟨Nat.zero_le _, Nat.zero_le _⟩ rfl (Nat.le_of_ble_eq_true rfl) dX5_best_2 (fun ν2 H locs hp2 hM hS => ?_)
  obtain ⟨hds, hs3⟩ := hp2
  refine lv_aload_n X.1 X.2.1 dX5_best_5 rfl (lv_at hl 0 rfl) ?_
  refine m_get (ci := 5) (C := RX5) (T := TX5) (N := 10) X hM inA5 (by decide) (dE_desk G _) rfl 4 (by decide) kl_X5_38 rfl rfl dX5_best_6 ?_
  refine m_getN (ci := 3) (C := RX3) (T := TX3) (N := 5) X hM inA3 (by decide) (dE_search G _) rfl 2 (by decide) kl_X5_168 rfl rfl dX5_best_9 ?_
  exact rI ⟨by rw [← hs3]; rfl, hds⟩ X hM hS hret hlk dX5_best_12

set_option maxHeartbeats 4000000 in
set_option maxRecDepth 100000 in
theorem c_X5_order {l : Launch} {G : dG} {ν : Mm} {o x : Nat} (hW : WD ν) (ho : o < ν 0 7) (hx : x < 5) : cI l yX5_order cX5_order 3 (some .int) 2 G [.ref (ra G 0), .int (nI o), .int (nI x)] ν (fun r ν' => r = tellF ν o x ∧ ν' = ν) := by
  refine cI_of (by decide +kernel) (Nat.le_of_ble_eq_true rfl) ?_
  intro p e s m args below meth c ls X hM hret hlk hl
  have hS : dS G s.heap s.heap [] := va_S.rf
  have hno := hW.no
  refine lv_aload_n X.1 X.2.1 dX5_order_0 rfl (lv_at hl 0 rfl) ?_
  refine lv_iload_n X.1 X.2.1 dX5_order_1 rfl (lv_at hl 1 rfl) ?_
  refine kVV (As := [_]) X hM hS hl.1 (c_X5_needOrder hW ho) (by decide) (dE_desk G _) rfl rfl kl_X5_194 mf_X5_needOrder ⟨Nat.le_of_ble_eq_true rfl, Nat.le_of_ble_eq_true rfl⟩ ⟨Nat.zero_le _, Nat.zero_le _⟩ rfl (Nat.le_of_ble_eq_true rfl) dX5_order_2 (fun ν2 H locs hp2 hM hS => ?_)
  replace hp2 := hp2.symm
  subst hp2
  refine lv_iload_n X.1 X.2.1 dX5_order_5 rfl (lv_at hl 2 rfl) ?_
  refine tn_lt0 (tgt := 14) X dX5_order_6 (by decide) (by omega) ?_
  refine lv_iload_n X.1 X.2.1 dX5_order_9 rfl (lv_at hl 2 rfl) ?_
  refine tn_ic (v := 5) X dX5_order_10 (by decide) ?_
  refine tn_lt (tgt := 24) X dX5_order_11 (by decide) (by omega) (by omega) (fun h11 => ?_) (fun h11 => ?_)
  · refine lv_aload_n X.1 X.2.1 dX5_order_24 rfl (lv_at hl 0 rfl) ?_
    refine m_get (ci := 5) (C := RX5) (T := TX5) (N := 10) X hM inA5 (by decide) (dE_desk G _) rfl 2 (by decide) kl_X5_24 rfl rfl dX5_order_25 ?_
    refine lv_iload_n X.1 X.2.1 dX5_order_28 rfl (lv_at hl 1 rfl) ?_
    refine m_aald 2 rfl X hM (by decide) (dE_orders G _) rfl (show o < 12 by omega) (by decide) dX5_order_29 ?_
    refine lv_iload_n X.1 X.2.1 dX5_order_30 rfl (lv_at hl 2 rfl) ?_
    refine kNI (As := [_]) X hM hS hl.1 (c_X2_tell (show o < 12 by omega) (by omega) (hW.cC (lotB_o (show o < 12 by omega)))) (by omega) (dE_ord (show o < 12 by omega) G _) rfl rfl kl_X5_217 mf_X2_tell ⟨Nat.le_of_ble_eq_true rfl, Nat.le_of_ble_eq_true rfl⟩ ⟨Nat.zero_le _, Nat.zero_le _⟩ rfl (Nat.le_of_ble_eq_true rfl) dX5_order_31 (fun r31 ν31 H locs hp31 hM hS => ?_)
    obtain ⟨rfl, e31⟩ := hp31
    replace e31 := e31.symm
    subst e31
    exact rI ⟨rfl, rfl⟩ X hM hS hret hlk dX5_order_34
  · exfalso; omega

set_option maxHeartbeats 4000000 in
set_option maxRecDepth 100000 in
theorem c_X5_pieces {l : Launch} {G : dG} {ν : Mm} {o a : Nat} (hW : WD ν) (ho : o < ν 0 7) (ha : a < ν 0 5) : cI l yX5_pieces cX5_pieces 3 (some .int) 1 G [.ref (ra G 0), .int (nI o), .int (nI a)] ν (fun r ν' => r = ν (31 + 5 * o + 3) a ∧ ν' = ν) := by
  refine cI_of (by decide +kernel) (Nat.le_of_ble_eq_true rfl) ?_
  intro p e s m args below meth c ls X hM hret hlk hl
  have hS : dS G s.heap s.heap [] := va_S.rf
  have hno := hW.no
  have hna := hW.na
  refine lv_aload_n X.1 X.2.1 dX5_pieces_0 rfl (lv_at hl 0 rfl) ?_
  refine lv_iload_n X.1 X.2.1 dX5_pieces_1 rfl (lv_at hl 1 rfl) ?_
  refine kVV (As := [_]) X hM hS hl.1 (c_X5_needOrder hW ho) (by decide) (dE_desk G _) rfl rfl kl_X5_194 mf_X5_needOrder ⟨Nat.le_of_ble_eq_true rfl, Nat.le_of_ble_eq_true rfl⟩ ⟨Nat.zero_le _, Nat.zero_le _⟩ rfl (Nat.le_of_ble_eq_true rfl) dX5_pieces_2 (fun ν2 H locs hp2 hM hS => ?_)
  replace hp2 := hp2.symm
  subst hp2
  refine lv_aload_n X.1 X.2.1 dX5_pieces_5 rfl (lv_at hl 0 rfl) ?_
  refine lv_iload_n X.1 X.2.1 dX5_pieces_6 rfl (lv_at hl 2 rfl) ?_
  refine kVV (As := [_]) X hM hS hl.1 (c_X5_needArticle hW ha) (by decide) (dE_desk G _) rfl rfl kl_X5_84 mf_X5_needArticle ⟨Nat.le_of_ble_eq_true rfl, Nat.le_of_ble_eq_true rfl⟩ ⟨Nat.zero_le _, Nat.zero_le _⟩ rfl (Nat.le_of_ble_eq_true rfl) dX5_pieces_7 (fun ν7 H locs hp7 hM hS => ?_)
  replace hp7 := hp7.symm
  subst hp7
  refine lv_aload_n X.1 X.2.1 dX5_pieces_10 rfl (lv_at hl 0 rfl) ?_
  refine m_get (ci := 5) (C := RX5) (T := TX5) (N := 10) X hM inA5 (by decide) (dE_desk G _) rfl 2 (by decide) kl_X5_24 rfl rfl dX5_pieces_11 ?_
  refine lv_iload_n X.1 X.2.1 dX5_pieces_14 rfl (lv_at hl 1 rfl) ?_
  refine m_aald 2 rfl X hM (by decide) (dE_orders G _) rfl (show o < 12 by omega) (by decide) dX5_pieces_15 ?_
  refine m_getN (ci := 2) (C := RX2) (T := TX2) (N := 4) X hM inA2 (by omega) (dE_ord (show o < 12 by omega) G _) rfl 0 (by decide) kl_X5_197 rfl rfl dX5_pieces_16 ?_
  refine m_getN (ci := 1) (C := RX1) (T := TX1) (N := 3) X hM inA1 (by have := lotB.lt (lotB_o (show o < 12 by omega)); omega) (dE_lot (lotB_o (show o < 12 by omega)) G _) rfl 2 (by decide) kl_X5_89 rfl rfl dX5_pieces_19 ?_
  refine lv_iload_n X.1 X.2.1 dX5_pieces_22 rfl (lv_at hl 2 rfl) ?_
  refine m_iald X hM (by have := lotB.lt (lotB_o (show o < 12 by omega)); omega) (dE_lotA (lotB_o (show o < 12 by omega)) (by decide) (by decide) G _) (by omega) (by decide) dX5_pieces_23 ?_
  exact rI ⟨rfl, rfl⟩ X hM hS hret hlk dX5_pieces_24
