/-! ===== CouponDesk: buy, giveBack ===== -/
set_option maxHeartbeats 4000000 in
set_option maxRecDepth 100000 in
theorem c_X5_buy {l : Launch} {G : dG} {ν : Mm} {st : Nat} (hW : WD ν) (hs : st < 2 ^ ν 0 6) (hal : al ν st = true) (hne : cnt ν 1 10 ≠ 0) (hno : ν 0 7 < 12) : cI l yX5_buy cX5_buy 4 (some .int) 6 G [.ref (ra G 0), .int (nI st)] ν (fun r ν' => r = ν 0 7 ∧ dsk (buyM ν st) ν') := by
  refine cI_of (by decide +kernel) (Nat.le_of_ble_eq_true rfl) ?_
  intro p e s m args below meth c ls X hM hret hlk hl
  have hS : dS G s.heap s.heap [] := va_S.rf
  have h256 := pow8 hW.nc
  have hgl := gdF_le hW lotB_1 st
  have h60 := hW.n60 lotB_1
  refine lv_aload_n X.1 X.2.1 dX5_buy_0 rfl (lv_at hl 0 rfl) ?_
  refine lv_iload_n X.1 X.2.1 dX5_buy_1 rfl (lv_at hl 1 rfl) ?_
  refine kVV (As := [_]) X hM hS hl.1 (c_X5_needCoupons hW hs) (by decide) (dE_desk G _) rfl rfl kl_X5_141 mf_X5_needCoupons ⟨Nat.le_of_ble_eq_true rfl, Nat.le_of_ble_eq_true rfl⟩ ⟨Nat.zero_le _, Nat.zero_le _⟩ rfl (Nat.le_of_ble_eq_true rfl) dX5_buy_2 (fun ν2 H locs hp2 hM hS => ?_)
  replace hp2 := hp2.symm
  subst hp2
  refine lv_aload_n X.1 X.2.1 dX5_buy_5 rfl (lv_at hl 0 rfl) ?_
  refine lv_iload_n X.1 X.2.1 dX5_buy_6 rfl (lv_at hl 1 rfl) ?_
  refine kVV (As := [_]) X hM hS hl.1 (c_X5_needAllowed hW (by omega) hal) (by decide) (dE_desk G _) rfl rfl kl_X5_148 mf_X5_needAllowed ⟨Nat.le_of_ble_eq_true rfl, Nat.le_of_ble_eq_true rfl⟩ ⟨Nat.zero_le _, Nat.zero_le _⟩ rfl (Nat.le_of_ble_eq_true rfl) dX5_buy_7 (fun ν7 H locs hp7 hM hS => ?_)
  replace hp7 := hp7.symm
  subst hp7
  refine lv_aload_n X.1 X.2.1 dX5_buy_10 rfl (lv_at hl 0 rfl) ?_
  refine m_get (ci := 5) (C := RX5) (T := TX5) (N := 10) X hM inA5 (by decide) (dE_desk G _) rfl 0 (by decide) kl_X5_12 rfl rfl dX5_buy_11 ?_
  refine kNI (As := []) X hM hS hl.1 (c_X1_countOfPieces lotB_1) (by have := lotB.lt lotB_1; omega) (dE_lot lotB_1 G _) rfl rfl kl_X5_177 mf_X1_countOfPieces ⟨Nat.le_of_ble_eq_true rfl, Nat.le_of_ble_eq_true rfl⟩ ⟨Nat.zero_le _, Nat.zero_le _⟩ rfl (Nat.le_of_ble_eq_true rfl) dX5_buy_14 (fun r14 ν14 H locs hp14 hM hS => ?_)
  obtain ⟨rfl, e14⟩ := hp14
  replace e14 := e14.symm
  subst e14
  refine tn_ne0 (tgt := 30) X dX5_buy_17 (by decide) (by omega) (fun h17 => ?_) (fun h17 => ?_)
  · refine lv_aload_n X.1 X.2.1 dX5_buy_30 rfl (lv_at hl 0 rfl) ?_
    refine m_get (ci := 5) (C := RX5) (T := TX5) (N := 10) X hM inA5 (by decide) (dE_desk G _) rfl 7 (by decide) kl_X5_49 rfl rfl dX5_buy_31 ?_
    refine tn_bi (v := 12) X dX5_buy_34 (by decide) ?_
    refine tn_lt (tgt := 49) X dX5_buy_36 (by decide) (by omega) (by omega) (fun h36 => ?_) (fun h36 => ?_)
    · refine lv_aload_n X.1 X.2.1 dX5_buy_49 rfl (lv_at hl 0 rfl) ?_
      refine m_get (ci := 5) (C := RX5) (T := TX5) (N := 10) X hM inA5 (by decide) (dE_desk G _) rfl 7 (by decide) kl_X5_49 rfl rfl dX5_buy_50 ?_
      refine lv_istore_n X.1 X.2.1 dX5_buy_53 rfl hl (by decide) rfl (fun ls hl => ?_)
      replace hl : lv_has ls 4 [(2, _), (0, _), (1, _)] := hl
      refine lv_aload_n X.1 X.2.1 dX5_buy_54 rfl (lv_at hl 1 rfl) ?_
      refine lv_aload_n X.1 X.2.1 dX5_buy_55 rfl (lv_at hl 1 rfl) ?_
      refine m_get (ci := 5) (C := RX5) (T := TX5) (N := 10) X hM inA5 (by decide) (dE_desk G _) rfl 0 (by decide) kl_X5_12 rfl rfl dX5_buy_56 ?_
      refine lv_iload_n X.1 X.2.1 dX5_buy_59 rfl (lv_at hl 2 rfl) ?_
      refine kVI (As := [_, _]) X hM hS hl.1 (c_X5_goodsOf hW lotB_1 (by omega)) (by decide) (dE_desk G _) rfl rfl kl_X5_151 mf_X5_goodsOf ⟨Nat.le_of_ble_eq_true rfl, Nat.le_of_ble_eq_true rfl⟩ ⟨Nat.zero_le _, Nat.zero_le _⟩ rfl (Nat.le_of_ble_eq_true rfl) dX5_buy_60 (fun r60 ν60 H locs hp60 hM hS => ?_)
      obtain ⟨rfl, hds, -⟩ := hp60
      have hWb := hds.WD hW
      have hd0 := hds.d
      refine lv_istore_n X.1 X.2.1 dX5_buy_63 rfl hl (by decide) rfl (fun ls hl => ?_)
      replace hl : lv_has ls 4 [(3, _), (2, _), (0, _), (1, _)] := hl
      refine lv_aload_n X.1 X.2.1 dX5_buy_64 rfl (lv_at hl 2 rfl) ?_
      refine m_get (ci := 5) (C := RX5) (T := TX5) (N := 10) X hM inA5 (by decide) (dE_desk G _) rfl 2 (by decide) kl_X5_24 rfl rfl dX5_buy_65 ?_
      refine lv_iload_n X.1 X.2.1 dX5_buy_68 rfl (lv_at hl 1 rfl) ?_
      refine m_aald 2 rfl X hM (by decide) (dE_orders G _) rfl (show ν 0 7 < 12 by omega) (by decide) dX5_buy_69 ?_
      refine lv_aload_n X.1 X.2.1 dX5_buy_70 rfl (lv_at hl 2 rfl) ?_
      refine m_get (ci := 5) (C := RX5) (T := TX5) (N := 10) X hM inA5 (by decide) (dE_desk G _) rfl 0 (by decide) kl_X5_12 rfl rfl dX5_buy_71 ?_
      refine lv_iload_n X.1 X.2.1 dX5_buy_74 rfl (lv_at hl 3 rfl) ?_
      refine lv_aload_n X.1 X.2.1 dX5_buy_75 rfl (lv_at hl 2 rfl) ?_
      refine lv_iload_n X.1 X.2.1 dX5_buy_76 rfl (lv_at hl 3 rfl) ?_
      refine lv_iload_n X.1 X.2.1 dX5_buy_77 rfl (lv_at hl 0 rfl) ?_
      refine kVI (As := [_, _]) X hM hS hl.1 (c_X5_feeFor hWb (by omega) (by omega)) (by decide) (dE_desk G _) rfl rfl kl_X5_155 mf_X5_feeFor ⟨Nat.le_of_ble_eq_true rfl, Nat.le_of_ble_eq_true rfl⟩ ⟨Nat.zero_le _, Nat.zero_le _⟩ rfl (Nat.le_of_ble_eq_true rfl) dX5_buy_78 (fun r78 ν78 H locs hp78 hM hS => ?_)
      obtain ⟨rfl, e78⟩ := hp78
      replace e78 := e78.symm
      subst e78
      refine lv_iload_n X.1 X.2.1 dX5_buy_81 rfl (lv_at hl 0 rfl) ?_
      refine kNV (As := [_, _, _, _]) X hM hS hl.1 (c_X2_become (show ν 0 7 < 12 by omega) lotB_1) (by omega) (dE_ord (show ν 0 7 < 12 by omega) G _) rfl rfl kl_X5_185 mf_X2_become ⟨Nat.le_of_ble_eq_true rfl, Nat.le_of_ble_eq_true rfl⟩ ⟨Nat.zero_le _, Nat.zero_le _⟩ rfl (Nat.le_of_ble_eq_true rfl) dX5_buy_82 (fun ν82 H locs hp82 hM hS => ?_)
      replace hp82 := hp82.symm
      subst hp82
      refine lv_aload_n X.1 X.2.1 dX5_buy_85 rfl (lv_at hl 2 rfl) ?_
      have eM0 : (up2 (up2 (up2 (cpLot ν60 1 (31 + 5 * ν 0 7)) (30 + 5 * ν 0 7) 1 st) (30 + 5 * ν 0 7) 2 (feF ν60 st (gdF ν 1 st))) (30 + 5 * ν 0 7) 3 (gdF ν 1 st)) 0 = ν 0 := by rw [up2_ne (by omega), up2_ne (by omega), up2_ne (by omega), cpLot_ne (by omega) (by omega) (by omega)]; exact hd0
      refine lv_dup X.1 X.2.1 dX5_buy_86 rfl ?_
      refine m_get (ci := 5) (C := RX5) (T := TX5) (N := 10) X hM inA5 (by decide) (dE_desk G _) rfl 7 (by decide) kl_X5_49 rfl rfl dX5_buy_87 ?_
      refine tn_as (show (up2 (up2 (up2 (cpLot ν60 1 (31 + 5 * ν 0 7)) (30 + 5 * ν 0 7) 1 st) (30 + 5 * ν 0 7) 2 (feF ν60 st (gdF ν 1 st))) (30 + 5 * ν 0 7) 3 (gdF ν 1 st)) 0 7 = ν 0 7 by rw [eM0]) ?_
      refine tn_ic (v := 1) X dX5_buy_90 (by decide) ?_
      refine tn_add X dX5_buy_91 ?_
      refine m_put (ci := 5) (C := RX5) (T := TX5) (N := 10) X hM hS inA5 tyX5_ok nmX5 (by decide) (dE_desk G _) rfl 7 (by decide) kl_X5_49 rfl rfl (by decide +kernel) (Nat.le_of_ble_eq_true rfl) (dE_desk G _) dX5_buy_92 (fun H locs hM hS => ?_)
      have hfe2 := feF_le hWb st (gdF ν 1 st)
      have hWu : WD (up2 (up2 (up2 (up2 (cpLot ν60 1 (31 + 5 * ν 0 7)) (30 + 5 * ν 0 7) 1 st) (30 + 5 * ν 0 7) 2 (feF ν60 st (gdF ν 1 st))) (30 + 5 * ν 0 7) 3 (gdF ν 1 st)) 0 7 (ν 0 7 + 1)) := by
        have hq : ν 0 7 < 12 := by omega
        have h1 := (((hWb.cp lotB_1 (lotB_o hq)).upA hq (show st < 256 by omega)).upF hq hfe2).upG hq hgl
        refine h1.upC (cOK_d ?_)
        have h2 := h1.2.2.2
        simp only [va_up] at h2 ⊢
        simp
        omega
      have e06 : up2 (up2 (up2 (up2 (cpLot ν60 1 (31 + 5 * ν 0 7)) (30 + 5 * ν 0 7) 1 st) (30 + 5 * ν 0 7) 2 (feF ν60 st (gdF ν 1 st))) (30 + 5 * ν 0 7) 3 (gdF ν 1 st)) 0 7 (ν 0 7 + 1) 0 6 = ν 0 6 := by rw [up2_ne2 (by decide), eM0]
      have huse : ∀ k, k < up2 (up2 (up2 (up2 (cpLot ν60 1 (31 + 5 * ν 0 7)) (30 + 5 * ν 0 7) 1 st) (30 + 5 * ν 0 7) 2 (feF ν60 st (gdF ν 1 st))) (30 + 5 * ν 0 7) 3 (gdF ν 1 st)) 0 7 (ν 0 7 + 1) 0 6 → bt st k = 1 → 0 < up2 (up2 (up2 (up2 (cpLot ν60 1 (31 + 5 * ν 0 7)) (30 + 5 * ν 0 7) 1 st) (30 + 5 * ν 0 7) 2 (feF ν60 st (gdF ν 1 st))) (30 + 5 * ν 0 7) 3 (gdF ν 1 st)) 0 7 (ν 0 7 + 1) (22 + k) 5 := fun k hk hb => by
        rw [e06] at hk
        have hk8 := hW.nc
        rw [up2_ne (by omega), up2_ne (by omega), up2_ne (by omega), up2_ne (by omega), cpLot_ne (by omega) (by omega) (by omega), hds.c]
        exact (al_usab hal hk hb).1
      refine lv_aload_n X.1 X.2.1 dX5_buy_95 rfl (lv_at hl 2 rfl) ?_
      refine lv_iload_n X.1 X.2.1 dX5_buy_96 rfl (lv_at hl 3 rfl) ?_
      refine kVV (As := [_]) X hM hS hl.1 (c_X5_useUp hWu (by omega) huse) (by decide) (dE_desk G _) rfl rfl kl_X5_188 mf_X5_useUp ⟨Nat.le_of_ble_eq_true rfl, Nat.le_of_ble_eq_true rfl⟩ ⟨Nat.zero_le _, Nat.zero_le _⟩ rfl (Nat.le_of_ble_eq_true rfl) dX5_buy_97 (fun ν97 H locs hp97 hM hS => ?_)
      replace hp97 := hp97.symm
      subst hp97
      refine lv_aload_n X.1 X.2.1 dX5_buy_100 rfl (lv_at hl 2 rfl) ?_
      refine m_get (ci := 5) (C := RX5) (T := TX5) (N := 10) X hM inA5 (by decide) (dE_desk G _) rfl 0 (by decide) kl_X5_12 rfl rfl dX5_buy_101 ?_
      refine kNV (As := []) X hM hS hl.1 (c_X1_removeAllPieces lotB_1) (by have := lotB.lt lotB_1; omega) (dE_lot lotB_1 G _) rfl rfl kl_X5_191 mf_X1_removeAllPieces ⟨Nat.le_of_ble_eq_true rfl, Nat.le_of_ble_eq_true rfl⟩ ⟨Nat.zero_le _, Nat.zero_le _⟩ rfl (Nat.le_of_ble_eq_true rfl) dX5_buy_104 (fun ν104 H locs hp104 hM hS => ?_)
      replace hp104 := hp104.symm
      subst hp104
      refine lv_iload_n X.1 X.2.1 dX5_buy_107 rfl (lv_at hl 1 rfl) ?_
      exact rI ⟨rfl, buy_dsk (by omega) hds⟩ X hM hS hret hlk dX5_buy_108
    · exfalso; omega
  · exact absurd h17 hne

set_option maxHeartbeats 4000000 in
set_option maxRecDepth 100000 in
theorem c_X5_giveBack {l : Launch} {G : dG} {ν : Mm} {o a n : Nat} (hW : WD ν) (ho : o < ν 0 7) (ha : a < ν 0 5) (h1n : 1 ≤ n) (hn : n ≤ ν (31 + 5 * o + 3) a) : cI l yX5_giveBack cX5_giveBack 7 (some .int) 6 G [.ref (ra G 0), .int (nI o), .int (nI a), .int (nI n)] ν (fun r ν' => r = gbR ν o a n ∧ dsk (gbM ν o a n) ν') := by
  refine cI_of (by decide +kernel) (Nat.le_of_ble_eq_true rfl) ?_
  intro p e s m args below meth c ls X hM hret hlk hl
  have hS : dS G s.heap s.heap [] := va_S.rf
  have hno := hW.no
  have hna := hW.na
  have hc6 := hW.c6 (lotB_o (show o < 12 by omega)) a (by omega)
  have hpaid := (hW.2.2.1 o (by omega)).2.2
  refine lv_aload_n X.1 X.2.1 dX5_giveBack_0 rfl (lv_at hl 0 rfl) ?_
  refine lv_iload_n X.1 X.2.1 dX5_giveBack_1 rfl (lv_at hl 1 rfl) ?_
  refine kVV (As := [_]) X hM hS hl.1 (c_X5_needOrder hW ho) (by decide) (dE_desk G _) rfl rfl kl_X5_194 mf_X5_needOrder ⟨Nat.le_of_ble_eq_true rfl, Nat.le_of_ble_eq_true rfl⟩ ⟨Nat.zero_le _, Nat.zero_le _⟩ rfl (Nat.le_of_ble_eq_true rfl) dX5_giveBack_2 (fun ν2 H locs hp2 hM hS => ?_)
  replace hp2 := hp2.symm
  subst hp2
  refine lv_aload_n X.1 X.2.1 dX5_giveBack_5 rfl (lv_at hl 0 rfl) ?_
  refine lv_iload_n X.1 X.2.1 dX5_giveBack_6 rfl (lv_at hl 2 rfl) ?_
  refine kVV (As := [_]) X hM hS hl.1 (c_X5_needArticle hW ha) (by decide) (dE_desk G _) rfl rfl kl_X5_84 mf_X5_needArticle ⟨Nat.le_of_ble_eq_true rfl, Nat.le_of_ble_eq_true rfl⟩ ⟨Nat.zero_le _, Nat.zero_le _⟩ rfl (Nat.le_of_ble_eq_true rfl) dX5_giveBack_7 (fun ν7 H locs hp7 hM hS => ?_)
  replace hp7 := hp7.symm
  subst hp7
  refine lv_aload_n X.1 X.2.1 dX5_giveBack_10 rfl (lv_at hl 0 rfl) ?_
  refine m_get (ci := 5) (C := RX5) (T := TX5) (N := 10) X hM inA5 (by decide) (dE_desk G _) rfl 2 (by decide) kl_X5_24 rfl rfl dX5_giveBack_11 ?_
  refine lv_iload_n X.1 X.2.1 dX5_giveBack_14 rfl (lv_at hl 1 rfl) ?_
  refine m_aald 2 rfl X hM (by decide) (dE_orders G _) rfl (show o < 12 by omega) (by decide) dX5_giveBack_15 ?_
  refine lv_astore X.1 X.2.1 dX5_giveBack_16 hl (by decide) rfl (fun ls hl => ?_)
  replace hl : lv_has ls 7 [(4, _), (0, _), (1, _), (2, _), (3, _)] := hl
  refine lv_iload_n X.1 X.2.1 dX5_giveBack_18 rfl (lv_at hl 4 rfl) ?_
  refine tn_ic (v := 1) X dX5_giveBack_19 (by decide) ?_
  refine tn_lt (tgt := 37) X dX5_giveBack_20 (by decide) (by omega) (by omega) (fun h20 => ?_) (fun h20 => ?_)
  · exfalso; omega
  · refine lv_iload_n X.1 X.2.1 dX5_giveBack_23 rfl (lv_at hl 4 rfl) ?_
    refine lv_aload X.1 X.2.1 dX5_giveBack_24 (lv_at hl 0 rfl) ?_
    refine m_getN (ci := 2) (C := RX2) (T := TX2) (N := 4) X hM inA2 (by omega) (dE_ord (show o < 12 by omega) G _) rfl 0 (by decide) kl_X5_197 rfl rfl dX5_giveBack_26 ?_
    refine m_getN (ci := 1) (C := RX1) (T := TX1) (N := 3) X hM inA1 (by have := lotB.lt (lotB_o (show o < 12 by omega)); omega) (dE_lot (lotB_o (show o < 12 by omega)) G _) rfl 2 (by decide) kl_X5_89 rfl rfl dX5_giveBack_29 ?_
    refine lv_iload_n X.1 X.2.1 dX5_giveBack_32 rfl (lv_at hl 3 rfl) ?_
    refine m_iald X hM (by have := lotB.lt (lotB_o (show o < 12 by omega)); omega) (dE_lotA (lotB_o (show o < 12 by omega)) (by decide) (by decide) G _) (by omega) (by decide) dX5_giveBack_33 ?_
    refine tn_le (tgt := 47) X dX5_giveBack_34 (by decide) (by omega) (by omega) (fun h34 => ?_) (fun h34 => ?_)
    · refine lv_aload X.1 X.2.1 dX5_giveBack_47 (lv_at hl 0 rfl) ?_
      refine m_getN (ci := 2) (C := RX2) (T := TX2) (N := 4) X hM inA2 (by omega) (dE_ord (show o < 12 by omega) G _) rfl 0 (by decide) kl_X5_197 rfl rfl dX5_giveBack_49 ?_
      refine m_getN (ci := 1) (C := RX1) (T := TX1) (N := 3) X hM inA1 (by have := lotB.lt (lotB_o (show o < 12 by omega)); omega) (dE_lot (lotB_o (show o < 12 by omega)) G _) rfl 2 (by decide) kl_X5_89 rfl rfl dX5_giveBack_52 ?_
      refine lv_iload_n X.1 X.2.1 dX5_giveBack_55 rfl (lv_at hl 3 rfl) ?_
      refine lv_dup2_11 X.1 X.2.1 dX5_giveBack_56 rfl rfl ?_
      refine m_iald X hM (by have := lotB.lt (lotB_o (show o < 12 by omega)); omega) (dE_lotA (lotB_o (show o < 12 by omega)) (by decide) (by decide) G _) (by omega) (by decide) dX5_giveBack_57 ?_
      refine lv_iload_n X.1 X.2.1 dX5_giveBack_58 rfl (lv_at hl 4 rfl) ?_
      refine tn_sub X dX5_giveBack_59 (by omega) ?_
      refine m_iast X hM hS (by have := lotB.lt (lotB_o (show o < 12 by omega)); omega) (fun _ => (dE_lotA (lotB_o (show o < 12 by omega)) (by decide) (by decide) G _)) (by omega) (by decide) dX5_giveBack_60 (fun H locs hM hS => ?_)
      have hW1 : WD (gb1 ν o a n) := hW.upN (lotB_o (show o < 12 by omega)) (by omega)
      have hM : dM G (gb1 ν o a n) H := hM
      have e06 : gb1 ν o a n 0 6 = ν 0 6 := by unfold gb1; rw [up2_ne (by omega)]
      refine lv_aload X.1 X.2.1 dX5_giveBack_61 (lv_at hl 0 rfl) ?_
      refine lv_aload_n X.1 X.2.1 dX5_giveBack_63 rfl (lv_at hl 1 rfl) ?_
      refine lv_aload X.1 X.2.1 dX5_giveBack_64 (lv_at hl 0 rfl) ?_
      refine kVI (As := [_]) X hM hS hl.1 (c_X5_stillReached hW1 (show o < 12 by omega)) (by decide) (dE_desk G _) rfl rfl kl_X5_202 mf_X5_stillReached ⟨Nat.le_of_ble_eq_true rfl, Nat.le_of_ble_eq_true rfl⟩ ⟨Nat.zero_le _, Nat.zero_le _⟩ rfl (Nat.le_of_ble_eq_true rfl) dX5_giveBack_66 (fun r66 ν66 H locs hp66 hM hS => ?_)
      obtain ⟨rfl, e66⟩ := hp66
      replace e66 := e66.symm
      subst e66
      refine m_putN (ci := 2) (C := RX2) (T := TX2) (N := 4) X hM hS inA2 tyX2_ok nmX2 (by omega) (dE_ord (show o < 12 by omega) G _) rfl 1 (by decide) kl_X5_206 rfl rfl (by decide +kernel) (Nat.le_of_ble_eq_true rfl) (dE_ord (show o < 12 by omega) G _) dX5_giveBack_69 (fun H locs hM hS => ?_)
      have hsr : srF (gb1 ν o a n) o (gb1 ν o a n 0 6) < 256 := Nat.lt_of_lt_of_le (srF_lt _) (pow8 hW1.nc)
      have hW2 : WD (gb2 ν o a n) := hW1.upA (show o < 12 by omega) (by rw [← e06]; exact hsr)
      have hM : dM G (gb2 ν o a n) H := by unfold gb2; rw [← e06]; exact hM
      have eAct : gb2 ν o a n (30 + 5 * o) 1 = srF (gb1 ν o a n) o (ν 0 6) := up2_at _ _ _ _
      rw [e06] at hsr
      refine lv_aload_n X.1 X.2.1 dX5_giveBack_72 rfl (lv_at hl 1 rfl) ?_
      refine lv_aload X.1 X.2.1 dX5_giveBack_73 (lv_at hl 0 rfl) ?_
      refine m_getN (ci := 2) (C := RX2) (T := TX2) (N := 4) X hM inA2 (by omega) (dE_ord (show o < 12 by omega) G _) rfl 0 (by decide) kl_X5_197 rfl rfl dX5_giveBack_75 ?_
      refine lv_aload X.1 X.2.1 dX5_giveBack_78 (lv_at hl 0 rfl) ?_
      refine m_getN (ci := 2) (C := RX2) (T := TX2) (N := 4) X hM inA2 (by omega) (dE_ord (show o < 12 by omega) G _) rfl 1 (by decide) kl_X5_206 rfl rfl dX5_giveBack_80 ?_
      refine kVI (As := [_, _]) X hM hS hl.1 (c_X5_goodsOf hW2 (lotB_o (show o < 12 by omega)) (by rw [eAct]; omega)) (by decide) (dE_desk G _) rfl rfl kl_X5_151 mf_X5_goodsOf ⟨Nat.le_of_ble_eq_true rfl, Nat.le_of_ble_eq_true rfl⟩ ⟨Nat.zero_le _, Nat.zero_le _⟩ rfl (Nat.le_of_ble_eq_true rfl) dX5_giveBack_83 (fun r83 ν83 H locs hp83 hM hS => ?_)
      obtain ⟨rfl, hds, -⟩ := hp83
      refine lv_istore X.1 X.2.1 dX5_giveBack_86 hl (by decide) rfl (fun ls hl => ?_)
      replace hl : lv_has ls 7 [(5, _), (4, _), (0, _), (1, _), (2, _), (3, _)] := hl
      have hgl := gdF_le hW2 (lotB_o (show o < 12 by omega)) (gb2 ν o a n (30 + 5 * o) 1)
      have e3 : ν83 (30 + 5 * o) 3 = ν (30 + 5 * o) 3 := by rw [hds.o]; unfold gb2 gb1; rw [up2_ne2 (by decide), up2_ne (by omega)]
      have eG : gdF (gb2 ν o a n) (31 + 5 * o) (gb2 ν o a n (30 + 5 * o) 1) = gbG ν o a n := by rw [eAct]; rfl
      refine lv_iload X.1 X.2.1 dX5_giveBack_88 (lv_at hl 0 rfl) ?_
      refine lv_aload X.1 X.2.1 dX5_giveBack_90 (lv_at hl 1 rfl) ?_
      refine m_getN (ci := 2) (C := RX2) (T := TX2) (N := 4) X hM inA2 (by omega) (dE_ord (show o < 12 by omega) G _) rfl 3 (by decide) kl_X5_209 rfl rfl dX5_giveBack_92 ?_
      refine tn_lt (tgt := 100) X dX5_giveBack_95 (by decide) (by omega) (by rw [e3]; omega) (fun h95 => ?_) (fun h95 => ?_)
      · refine lv_aload X.1 X.2.1 dX5_giveBack_100 (lv_at hl 1 rfl) ?_
        refine m_getN (ci := 2) (C := RX2) (T := TX2) (N := 4) X hM inA2 (by omega) (dE_ord (show o < 12 by omega) G _) rfl 3 (by decide) kl_X5_209 rfl rfl dX5_giveBack_102 ?_
        refine lv_iload X.1 X.2.1 dX5_giveBack_105 (lv_at hl 0 rfl) ?_
        refine tn_sub X dX5_giveBack_107 (by omega) ?_
        refine lv_istore X.1 X.2.1 dX5_giveBack_108 hl (by decide) rfl (fun ls hl => ?_)
        replace hl : lv_has ls 7 [(6, _), (5, _), (4, _), (0, _), (1, _), (2, _), (3, _)] := hl
        refine lv_aload X.1 X.2.1 dX5_giveBack_110 (lv_at hl 2 rfl) ?_
        refine lv_iload X.1 X.2.1 dX5_giveBack_112 (lv_at hl 1 rfl) ?_
        refine m_putN (ci := 2) (C := RX2) (T := TX2) (N := 4) X hM hS inA2 tyX2_ok nmX2 (by omega) (dE_ord (show o < 12 by omega) G _) rfl 3 (by decide) kl_X5_209 rfl rfl (by decide +kernel) (Nat.le_of_ble_eq_true rfl) (dE_ord (show o < 12 by omega) G _) dX5_giveBack_114 (fun H locs hM hS => ?_)
        refine lv_iload X.1 X.2.1 dX5_giveBack_117 (lv_at hl 0 rfl) ?_
        exact rI ⟨by unfold gbR; rw [if_neg (by rw [← eG, ← e3]; omega), ← eG, e3], by unfold gbM; rw [if_neg (by rw [← eG, ← e3]; omega), ← eG]; exact hds.up _ _ _⟩ X hM hS hret hlk dX5_giveBack_119
      · refine tn_ic (v := 0) X dX5_giveBack_98 (by decide) ?_
        exact rI ⟨(if_pos (by rw [← eG, ← e3]; exact h95)).symm, by unfold gbM; rw [if_pos (by rw [← eG, ← e3]; exact h95)]; exact hds⟩ X hM hS hret hlk dX5_giveBack_99
    · exfalso; omega
