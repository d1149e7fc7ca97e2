/-! ===== the class on a fresh desk: what throws ===== -/
theorem nu0_al : al nu0 0 = true := by decide +kernel
theorem nu0_cnt : nI (cnt nu0 1 10) = 0 := by decide +kernel
set_option maxHeartbeats 4000000 in
set_option maxRecDepth 100000 in
theorem x_X5_needArticle {l : Launch} (hlt : l.stackTraces = false) {G : dG} {a : Int32}  : cXV l yX5_needArticle cX5_needArticle 2 0 G [.ref (ra G 0), .int a] nIOO := by
  refine cXV_of (by decide +kernel) rfl (Nat.le_of_ble_eq_true rfl) ?_
  intro p e s m args below meth c ls B hM hl
  have X := B.1
  have hS : dS G s.heap s.heap [] := va_S.rf
  refine lv_iload_n X.1 X.2.1 dX5_needArticle_0 rfl (lv_at hl 1 rfl) ?_
  refine lv_if_lt (tgt := 12) X.1 X.2.1 dX5_needArticle_1 (by decide) (fun h1 => ?_) (fun h1 => ?_)
  · exact x_throw (text := "no such article") hlt B hM hS hl.1 xOK_IOO (by decide) ⟨Nat.le_of_ble_eq_true rfl, Nat.le_of_ble_eq_true rfl, Nat.le_of_ble_eq_true rfl, Nat.le_of_ble_eq_true rfl⟩ dX5_needArticle_12 dX5_needArticle_15 dX5_needArticle_16 dX5_needArticle_18 dX5_needArticle_21
  · refine lv_iload_n X.1 X.2.1 dX5_needArticle_4 rfl (lv_at hl 1 rfl) ?_
    refine lv_aload_n X.1 X.2.1 dX5_needArticle_5 rfl (lv_at hl 0 rfl) ?_
    refine m_get (v := .int 0) (ci := 5) (C := RX5) (T := TX5) (N := 10) X hM inA5 (by decide) (dE_desk G _) rfl 5 (by decide) kl_X5_42 rfl rfl dX5_needArticle_6 ?_
    refine lv_icmp_lt (tgt := 22) X.1 X.2.1 dX5_needArticle_9 (by decide) (fun h9 => absurd h9 h1) (fun h9 => ?_)
    exact x_throw (text := "no such article") hlt B hM hS hl.1 xOK_IOO (by decide) ⟨Nat.le_of_ble_eq_true rfl, Nat.le_of_ble_eq_true rfl, Nat.le_of_ble_eq_true rfl, Nat.le_of_ble_eq_true rfl⟩ dX5_needArticle_12 dX5_needArticle_15 dX5_needArticle_16 dX5_needArticle_18 dX5_needArticle_21

set_option maxHeartbeats 4000000 in
set_option maxRecDepth 100000 in
theorem x_X5_needCoupon {l : Launch} (hlt : l.stackTraces = false) {G : dG} {a : Int32}  : cXV l yX5_needCoupon cX5_needCoupon 2 0 G [.ref (ra G 0), .int a] nIOO := by
  refine cXV_of (by decide +kernel) rfl (Nat.le_of_ble_eq_true rfl) ?_
  intro p e s m args below meth c ls B hM hl
  have X := B.1
  have hS : dS G s.heap s.heap [] := va_S.rf
  refine lv_iload_n X.1 X.2.1 dX5_needCoupon_0 rfl (lv_at hl 1 rfl) ?_
  refine lv_if_lt (tgt := 12) X.1 X.2.1 dX5_needCoupon_1 (by decide) (fun h1 => ?_) (fun h1 => ?_)
  · exact x_throw (text := "no such coupon") hlt B hM hS hl.1 xOK_IOO (by decide) ⟨Nat.le_of_ble_eq_true rfl, Nat.le_of_ble_eq_true rfl, Nat.le_of_ble_eq_true rfl, Nat.le_of_ble_eq_true rfl⟩ dX5_needCoupon_12 dX5_needCoupon_15 dX5_needCoupon_16 dX5_needCoupon_18 dX5_needCoupon_21
  · refine lv_iload_n X.1 X.2.1 dX5_needCoupon_4 rfl (lv_at hl 1 rfl) ?_
    refine lv_aload_n X.1 X.2.1 dX5_needCoupon_5 rfl (lv_at hl 0 rfl) ?_
    refine m_get (v := .int 0) (ci := 5) (C := RX5) (T := TX5) (N := 10) X hM inA5 (by decide) (dE_desk G _) rfl 6 (by decide) kl_X5_46 rfl rfl dX5_needCoupon_6 ?_
    refine lv_icmp_lt (tgt := 22) X.1 X.2.1 dX5_needCoupon_9 (by decide) (fun h9 => absurd h9 h1) (fun h9 => ?_)
    exact x_throw (text := "no such coupon") hlt B hM hS hl.1 xOK_IOO (by decide) ⟨Nat.le_of_ble_eq_true rfl, Nat.le_of_ble_eq_true rfl, Nat.le_of_ble_eq_true rfl, Nat.le_of_ble_eq_true rfl⟩ dX5_needCoupon_12 dX5_needCoupon_15 dX5_needCoupon_16 dX5_needCoupon_18 dX5_needCoupon_21

set_option maxHeartbeats 4000000 in
set_option maxRecDepth 100000 in
theorem x_X5_needOrder {l : Launch} (hlt : l.stackTraces = false) {G : dG} {a : Int32}  : cXV l yX5_needOrder cX5_needOrder 2 0 G [.ref (ra G 0), .int a] nIOO := by
  refine cXV_of (by decide +kernel) rfl (Nat.le_of_ble_eq_true rfl) ?_
  intro p e s m args below meth c ls B hM hl
  have X := B.1
  have hS : dS G s.heap s.heap [] := va_S.rf
  refine lv_iload_n X.1 X.2.1 dX5_needOrder_0 rfl (lv_at hl 1 rfl) ?_
  refine lv_if_lt (tgt := 12) X.1 X.2.1 dX5_needOrder_1 (by decide) (fun h1 => ?_) (fun h1 => ?_)
  · exact x_throw (text := "no such order") hlt B hM hS hl.1 xOK_IOO (by decide) ⟨Nat.le_of_ble_eq_true rfl, Nat.le_of_ble_eq_true rfl, Nat.le_of_ble_eq_true rfl, Nat.le_of_ble_eq_true rfl⟩ dX5_needOrder_12 dX5_needOrder_15 dX5_needOrder_16 dX5_needOrder_18 dX5_needOrder_21
  · refine lv_iload_n X.1 X.2.1 dX5_needOrder_4 rfl (lv_at hl 1 rfl) ?_
    refine lv_aload_n X.1 X.2.1 dX5_needOrder_5 rfl (lv_at hl 0 rfl) ?_
    refine m_get (v := .int 0) (ci := 5) (C := RX5) (T := TX5) (N := 10) X hM inA5 (by decide) (dE_desk G _) rfl 7 (by decide) kl_X5_49 rfl rfl dX5_needOrder_6 ?_
    refine lv_icmp_lt (tgt := 22) X.1 X.2.1 dX5_needOrder_9 (by decide) (fun h9 => absurd h9 h1) (fun h9 => ?_)
    exact x_throw (text := "no such order") hlt B hM hS hl.1 xOK_IOO (by decide) ⟨Nat.le_of_ble_eq_true rfl, Nat.le_of_ble_eq_true rfl, Nat.le_of_ble_eq_true rfl, Nat.le_of_ble_eq_true rfl⟩ dX5_needOrder_12 dX5_needOrder_15 dX5_needOrder_16 dX5_needOrder_18 dX5_needOrder_21

set_option maxHeartbeats 4000000 in
set_option maxRecDepth 100000 in
theorem x_X5_needPrice {l : Launch} (hlt : l.stackTraces = false) {G : dG} {a : Int32} (ha : inR a 1 10000 = false) : cXV l yX5_needPrice cX5_needPrice 1 0 G [.int a] nIAE := by
  refine cXV_of (by decide +kernel) rfl (Nat.le_of_ble_eq_true rfl) ?_
  intro p e s m args below meth c ls B hM hl
  have X := B.1
  have hS : dS G s.heap s.heap [] := va_S.rf
  refine lv_iload_n X.1 X.2.1 dX5_needPrice_0 rfl (lv_at hl 0 rfl) ?_
  refine lv_iconst (v := 1) X.1 X.2.1 dX5_needPrice_1 (by decide) ?_
  refine lv_icmp_lt (tgt := 12) X.1 X.2.1 dX5_needPrice_2 (by decide) (fun h2 => ?_) (fun h2 => ?_)
  · exact x_throw (text := "a price is 1 to 10000") hlt B hM hS hl.1 xOK_IAE (by decide) ⟨Nat.le_of_ble_eq_true rfl, Nat.le_of_ble_eq_true rfl, Nat.le_of_ble_eq_true rfl, Nat.le_of_ble_eq_true rfl⟩ dX5_needPrice_12 dX5_needPrice_15 dX5_needPrice_16 dX5_needPrice_18 dX5_needPrice_21
  · refine lv_iload_n X.1 X.2.1 dX5_needPrice_5 rfl (lv_at hl 0 rfl) ?_
    refine lv_sipush (v := 10000) X.1 X.2.1 dX5_needPrice_6 (by decide) ?_
    refine lv_icmp_le (tgt := 22) X.1 X.2.1 dX5_needPrice_9 (by decide) (fun h9 => (inR_no ha h2 (inR_le h9)).elim) (fun h9 => ?_)
    exact x_throw (text := "a price is 1 to 10000") hlt B hM hS hl.1 xOK_IAE (by decide) ⟨Nat.le_of_ble_eq_true rfl, Nat.le_of_ble_eq_true rfl, Nat.le_of_ble_eq_true rfl, Nat.le_of_ble_eq_true rfl⟩ dX5_needPrice_12 dX5_needPrice_15 dX5_needPrice_16 dX5_needPrice_18 dX5_needPrice_21

set_option maxHeartbeats 4000000 in
set_option maxRecDepth 100000 in
theorem x_X5_needCoupons {l : Launch} (hlt : l.stackTraces = false) {G : dG} {a : Int32} (ha : inR a 0 0 = false) : cXV l yX5_needCoupons cX5_needCoupons 2 0 G [.ref (ra G 0), .int a] nIAE := by
  refine cXV_of (by decide +kernel) rfl (Nat.le_of_ble_eq_true rfl) ?_
  intro p e s m args below meth c ls B hM hl
  have X := B.1
  have hS : dS G s.heap s.heap [] := va_S.rf
  refine lv_iload_n X.1 X.2.1 dX5_needCoupons_0 rfl (lv_at hl 1 rfl) ?_
  refine lv_if_lt (tgt := 14) X.1 X.2.1 dX5_needCoupons_1 (by decide) (fun h1 => ?_) (fun h1 => ?_)
  · exact x_throw (text := "the set contains something that is no coupon") hlt B hM hS hl.1 xOK_IAE (by decide) ⟨Nat.le_of_ble_eq_true rfl, Nat.le_of_ble_eq_true rfl, Nat.le_of_ble_eq_true rfl, Nat.le_of_ble_eq_true rfl⟩ dX5_needCoupons_14 dX5_needCoupons_17 dX5_needCoupons_18 dX5_needCoupons_20 dX5_needCoupons_23
  · refine lv_iload_n X.1 X.2.1 dX5_needCoupons_4 rfl (lv_at hl 1 rfl) ?_
    refine lv_iconst (v := 1) X.1 X.2.1 dX5_needCoupons_5 (by decide) ?_
    refine lv_aload_n X.1 X.2.1 dX5_needCoupons_6 rfl (lv_at hl 0 rfl) ?_
    refine m_get (v := .int 0) (ci := 5) (C := RX5) (T := TX5) (N := 10) X hM inA5 (by decide) (dE_desk G _) rfl 6 (by decide) kl_X5_46 rfl rfl dX5_needCoupons_7 ?_
    refine lv_ishl X.1 X.2.1 dX5_needCoupons_10 ?_
    refine r_as (b := 1) (by decide) ?_
    refine lv_icmp_lt (tgt := 24) X.1 X.2.1 dX5_needCoupons_11 (by decide) (fun h11 => (inR_no1 ha h1 h11).elim) (fun h11 => ?_)
    exact x_throw (text := "the set contains something that is no coupon") hlt B hM hS hl.1 xOK_IAE (by decide) ⟨Nat.le_of_ble_eq_true rfl, Nat.le_of_ble_eq_true rfl, Nat.le_of_ble_eq_true rfl, Nat.le_of_ble_eq_true rfl⟩ dX5_needCoupons_14 dX5_needCoupons_17 dX5_needCoupons_18 dX5_needCoupons_20 dX5_needCoupons_23

set_option maxHeartbeats 4000000 in
set_option maxRecDepth 100000 in
theorem x_X5_addArticle1 {l : Launch} (hlt : l.stackTraces = false) {G : dG} {a b : Int32} (ha : inR a 1 10000 = false) : cXI l yX5_addArticle cX5_addArticle 4 (some .int) 1 G [.ref (ra G 0), .int a, .int b] nIAE := by
  refine cXI_of (by decide +kernel) rfl (Nat.le_of_ble_eq_true rfl) ?_
  intro p e s m args below meth c ls B hM hl
  have X := B.1
  have hS : dS G s.heap s.heap [] := va_S.rf
  refine lv_iload_n X.1 X.2.1 dX5_addArticle_0 rfl (lv_at hl 1 rfl) ?_
  exact kXSV (As := [_]) B hM hS hl.1 (x_X5_needPrice hlt ha) kl_X5_61 mf_X5_needPrice ⟨Nat.le_of_ble_eq_true rfl, Nat.le_of_ble_eq_true rfl⟩ ⟨Nat.le_of_ble_eq_true rfl, Nat.le_of_ble_eq_true rfl⟩ rfl (Nat.le_of_ble_eq_true rfl) dX5_addArticle_1

set_option maxHeartbeats 4000000 in
set_option maxRecDepth 100000 in
theorem x_X5_addArticle2 {l : Launch} (hlt : l.stackTraces = false) {G : dG} {a : Nat} {b : Int32} (h1 : 1 ≤ a) (h2 : a ≤ 10000) (hb : inR b 0 7 = false) : cXI l yX5_addArticle cX5_addArticle 4 (some .int) 1 G [.ref (ra G 0), .int (nI a), .int b] nIAE := by
  refine cXI_of (by decide +kernel) rfl (Nat.le_of_ble_eq_true rfl) ?_
  intro p e s m args below meth c ls B hM hl
  have X := B.1
  have hS : dS G s.heap s.heap [] := va_S.rf
  refine lv_iload_n X.1 X.2.1 dX5_addArticle_0 rfl (lv_at hl 1 rfl) ?_
  refine kSV (As := [_]) X hM hS hl.1 (c_X5_needPrice h1 h2) kl_X5_61 mf_X5_needPrice ⟨Nat.le_of_ble_eq_true rfl, Nat.le_of_ble_eq_true rfl⟩ ⟨Nat.zero_le _, Nat.zero_le _⟩ rfl (Nat.le_of_ble_eq_true rfl) dX5_addArticle_1 (fun ν1 H locs hp1 hM hS => ?_)
  subst hp1
  refine lv_iload_n X.1 X.2.1 dX5_addArticle_4 rfl (lv_at hl 2 rfl) ?_
  refine lv_if_lt (tgt := 14) X.1 X.2.1 dX5_addArticle_5 (by decide) (fun h5 => ?_) (fun h5 => ?_)
  · exact x_throw (text := "a category is 0 to 7") hlt B hM hS hl.1 xOK_IAE (by decide) ⟨Nat.le_of_ble_eq_true rfl, Nat.le_of_ble_eq_true rfl, Nat.le_of_ble_eq_true rfl, Nat.le_of_ble_eq_true rfl⟩ dX5_addArticle_14 dX5_addArticle_17 dX5_addArticle_18 dX5_addArticle_20 dX5_addArticle_23
  · refine lv_iload_n X.1 X.2.1 dX5_addArticle_8 rfl (lv_at hl 2 rfl) ?_
    refine lv_bipush (v := 7) X.1 X.2.1 dX5_addArticle_9 (by decide) ?_
    refine lv_icmp_le (tgt := 24) X.1 X.2.1 dX5_addArticle_11 (by decide) (fun h11 => (inR_no hb h5 (inR_le h11)).elim) (fun h11 => ?_)
    exact x_throw (text := "a category is 0 to 7") hlt B hM hS hl.1 xOK_IAE (by decide) ⟨Nat.le_of_ble_eq_true rfl, Nat.le_of_ble_eq_true rfl, Nat.le_of_ble_eq_true rfl, Nat.le_of_ble_eq_true rfl⟩ dX5_addArticle_14 dX5_addArticle_17 dX5_addArticle_18 dX5_addArticle_20 dX5_addArticle_23

set_option maxHeartbeats 4000000 in
set_option maxRecDepth 100000 in
theorem x_X5_setPrice {l : Launch} (hlt : l.stackTraces = false) {G : dG} {a b : Int32}  : cXI l yX5_setPrice cX5_setPrice 4 (some .int) 1 G [.ref (ra G 0), .int a, .int b] nIOO := by
  refine cXI_of (by decide +kernel) rfl (Nat.le_of_ble_eq_true rfl) ?_
  intro p e s m args below meth c ls B hM hl
  have X := B.1
  have hS : dS G s.heap s.heap [] := va_S.rf
  refine lv_aload_n X.1 X.2.1 dX5_setPrice_0 rfl (lv_at hl 0 rfl) ?_
  refine lv_iload_n X.1 X.2.1 dX5_setPrice_1 rfl (lv_at hl 1 rfl) ?_
  exact kXVV (As := [_]) B hM hS hl.1 (x_X5_needArticle hlt) rfl kl_X5_84 mf_X5_needArticle ⟨Nat.le_of_ble_eq_true rfl, Nat.le_of_ble_eq_true rfl⟩ ⟨Nat.le_of_ble_eq_true rfl, Nat.le_of_ble_eq_true rfl⟩ rfl (Nat.le_of_ble_eq_true rfl) dX5_setPrice_2

set_option maxHeartbeats 4000000 in
set_option maxRecDepth 100000 in
theorem x_X5_put {l : Launch} (hlt : l.stackTraces = false) {G : dG} {a b : Int32}  : cXI l yX5_put cX5_put 4 (some .int) 1 G [.ref (ra G 0), .int a, .int b] nIOO := by
  refine cXI_of (by decide +kernel) rfl (Nat.le_of_ble_eq_true rfl) ?_
  intro p e s m args below meth c ls B hM hl
  have X := B.1
  have hS : dS G s.heap s.heap [] := va_S.rf
  refine lv_aload_n X.1 X.2.1 dX5_put_0 rfl (lv_at hl 0 rfl) ?_
  refine lv_iload_n X.1 X.2.1 dX5_put_1 rfl (lv_at hl 1 rfl) ?_
  exact kXVV (As := [_]) B hM hS hl.1 (x_X5_needArticle hlt) rfl kl_X5_84 mf_X5_needArticle ⟨Nat.le_of_ble_eq_true rfl, Nat.le_of_ble_eq_true rfl⟩ ⟨Nat.le_of_ble_eq_true rfl, Nat.le_of_ble_eq_true rfl⟩ rfl (Nat.le_of_ble_eq_true rfl) dX5_put_2

set_option maxHeartbeats 4000000 in
set_option maxRecDepth 100000 in
theorem x_X5_setShipping1 {l : Launch} (hlt : l.stackTraces = false) {G : dG} {a b : Int32} (ha : inR a 0 10000 = false) : cXI l yX5_setShipping cX5_setShipping 4 (some .int) 1 G [.ref (ra G 0), .int a, .int b] nIAE := by
  refine cXI_of (by decide +kernel) rfl (Nat.le_of_ble_eq_true rfl) ?_
  intro p e s m args below meth c ls B hM hl
  have X := B.1
  have hS : dS G s.heap s.heap [] := va_S.rf
  refine lv_iload_n X.1 X.2.1 dX5_setShipping_0 rfl (lv_at hl 1 rfl) ?_
  refine lv_if_lt (tgt := 11) X.1 X.2.1 dX5_setShipping_1 (by decide) (fun h1 => ?_) (fun h1 => ?_)
  · exact x_throw (text := "a fee is 0 to 10000") hlt B hM hS hl.1 xOK_IAE (by decide) ⟨Nat.le_of_ble_eq_true rfl, Nat.le_of_ble_eq_true rfl, Nat.le_of_ble_eq_true rfl, Nat.le_of_ble_eq_true rfl⟩ dX5_setShipping_11 dX5_setShipping_14 dX5_setShipping_15 dX5_setShipping_17 dX5_setShipping_20
  · refine lv_iload_n X.1 X.2.1 dX5_setShipping_4 rfl (lv_at hl 1 rfl) ?_
    refine lv_sipush (v := 10000) X.1 X.2.1 dX5_setShipping_5 (by decide) ?_
    refine lv_icmp_le (tgt := 21) X.1 X.2.1 dX5_setShipping_8 (by decide) (fun h8 => (inR_no ha h1 (inR_le h8)).elim) (fun h8 => ?_)
    exact x_throw (text := "a fee is 0 to 10000") hlt B hM hS hl.1 xOK_IAE (by decide) ⟨Nat.le_of_ble_eq_true rfl, Nat.le_of_ble_eq_true rfl, Nat.le_of_ble_eq_true rfl, Nat.le_of_ble_eq_true rfl⟩ dX5_setShipping_11 dX5_setShipping_14 dX5_setShipping_15 dX5_setShipping_17 dX5_setShipping_20

set_option maxHeartbeats 4000000 in
set_option maxRecDepth 100000 in
theorem x_X5_setShipping2 {l : Launch} (hlt : l.stackTraces = false) {G : dG} {a b : Int32} (ha : inR a 0 10000 = true) (hb : inR b 0 1000000 = false) : cXI l yX5_setShipping cX5_setShipping 4 (some .int) 1 G [.ref (ra G 0), .int a, .int b] nIAE := by
  refine cXI_of (by decide +kernel) rfl (Nat.le_of_ble_eq_true rfl) ?_
  intro p e s m args below meth c ls B hM hl
  have X := B.1
  have hS : dS G s.heap s.heap [] := va_S.rf
  refine lv_iload_n X.1 X.2.1 dX5_setShipping_0 rfl (lv_at hl 1 rfl) ?_
  refine lv_if_lt (tgt := 11) X.1 X.2.1 dX5_setShipping_1 (by decide) (fun h1 => absurd h1 (inR_lo ha)) (fun h1 => ?_)
  refine lv_iload_n X.1 X.2.1 dX5_setShipping_4 rfl (lv_at hl 1 rfl) ?_
  refine lv_sipush (v := 10000) X.1 X.2.1 dX5_setShipping_5 (by decide) ?_
  refine lv_icmp_le (tgt := 21) X.1 X.2.1 dX5_setShipping_8 (by decide) (fun h8 => ?_) (fun h8 => absurd (inR_hi ha) h8)
  refine lv_iload_n X.1 X.2.1 dX5_setShipping_21 rfl (lv_at hl 2 rfl) ?_
  refine lv_if_lt (tgt := 31) X.1 X.2.1 dX5_setShipping_22 (by decide) (fun h22 => ?_) (fun h22 => ?_)
  · exact x_throw (text := "a limit is 0 to 1000000") hlt B hM hS hl.1 xOK_IAE (by decide) ⟨Nat.le_of_ble_eq_true rfl, Nat.le_of_ble_eq_true rfl, Nat.le_of_ble_eq_true rfl, Nat.le_of_ble_eq_true rfl⟩ dX5_setShipping_31 dX5_setShipping_34 dX5_setShipping_35 dX5_setShipping_37 dX5_setShipping_40
  · refine lv_iload_n X.1 X.2.1 dX5_setShipping_25 rfl (lv_at hl 2 rfl) ?_
    refine lv_ldc (v := 1000000) X.1 X.2.1 X.2.2.2.1 (X.2.2.2.2.1 _ kl_X5_55) dX5_setShipping_26 ?_
    refine lv_icmp_le (tgt := 41) X.1 X.2.1 dX5_setShipping_28 (by decide) (fun h28 => (inR_no hb h22 (inR_le h28)).elim) (fun h28 => ?_)
    exact x_throw (text := "a limit is 0 to 1000000") hlt B hM hS hl.1 xOK_IAE (by decide) ⟨Nat.le_of_ble_eq_true rfl, Nat.le_of_ble_eq_true rfl, Nat.le_of_ble_eq_true rfl, Nat.le_of_ble_eq_true rfl⟩ dX5_setShipping_31 dX5_setShipping_34 dX5_setShipping_35 dX5_setShipping_37 dX5_setShipping_40

set_option maxHeartbeats 4000000 in
set_option maxRecDepth 100000 in
theorem x_X5_setUses {l : Launch} (hlt : l.stackTraces = false) {G : dG} {a b : Int32}  : cXI l yX5_setUses cX5_setUses 4 (some .int) 1 G [.ref (ra G 0), .int a, .int b] nIOO := by
  refine cXI_of (by decide +kernel) rfl (Nat.le_of_ble_eq_true rfl) ?_
  intro p e s m args below meth c ls B hM hl
  have X := B.1
  have hS : dS G s.heap s.heap [] := va_S.rf
  refine lv_aload_n X.1 X.2.1 dX5_setUses_0 rfl (lv_at hl 0 rfl) ?_
  refine lv_iload_n X.1 X.2.1 dX5_setUses_1 rfl (lv_at hl 1 rfl) ?_
  exact kXVV (As := [_]) B hM hS hl.1 (x_X5_needCoupon hlt) rfl kl_X5_118 mf_X5_needCoupon ⟨Nat.le_of_ble_eq_true rfl, Nat.le_of_ble_eq_true rfl⟩ ⟨Nat.le_of_ble_eq_true rfl, Nat.le_of_ble_eq_true rfl⟩ rfl (Nat.le_of_ble_eq_true rfl) dX5_setUses_2

set_option maxHeartbeats 4000000 in
set_option maxRecDepth 100000 in
theorem x_X5_matching {l : Launch} (hlt : l.stackTraces = false) {G : dG} {a : Int32}  : cXI l yX5_matching cX5_matching 2 (some .int) 1 G [.ref (ra G 0), .int a] nIOO := by
  refine cXI_of (by decide +kernel) rfl (Nat.le_of_ble_eq_true rfl) ?_
  intro p e s m args below meth c ls B hM hl
  have X := B.1
  have hS : dS G s.heap s.heap [] := va_S.rf
  refine lv_aload_n X.1 X.2.1 dX5_matching_0 rfl (lv_at hl 0 rfl) ?_
  refine lv_iload_n X.1 X.2.1 dX5_matching_1 rfl (lv_at hl 1 rfl) ?_
  exact kXVV (As := [_]) B hM hS hl.1 (x_X5_needCoupon hlt) rfl kl_X5_118 mf_X5_needCoupon ⟨Nat.le_of_ble_eq_true rfl, Nat.le_of_ble_eq_true rfl⟩ ⟨Nat.le_of_ble_eq_true rfl, Nat.le_of_ble_eq_true rfl⟩ rfl (Nat.le_of_ble_eq_true rfl) dX5_matching_2

set_option maxHeartbeats 4000000 in
set_option maxRecDepth 100000 in
theorem x_X5_fits {l : Launch} (hlt : l.stackTraces = false) {G : dG} {a : Int32}  : cXI l yX5_fits cX5_fits 2 (some .boolean) 1 G [.ref (ra G 0), .int a] nIOO := by
  refine cXI_of (by decide +kernel) rfl (Nat.le_of_ble_eq_true rfl) ?_
  intro p e s m args below meth c ls B hM hl
  have X := B.1
  have hS : dS G s.heap s.heap [] := va_S.rf
  refine lv_aload_n X.1 X.2.1 dX5_fits_0 rfl (lv_at hl 0 rfl) ?_
  refine lv_iload_n X.1 X.2.1 dX5_fits_1 rfl (lv_at hl 1 rfl) ?_
  exact kXVV (As := [_]) B hM hS hl.1 (x_X5_needCoupon hlt) rfl kl_X5_118 mf_X5_needCoupon ⟨Nat.le_of_ble_eq_true rfl, Nat.le_of_ble_eq_true rfl⟩ ⟨Nat.le_of_ble_eq_true rfl, Nat.le_of_ble_eq_true rfl⟩ rfl (Nat.le_of_ble_eq_true rfl) dX5_fits_2

set_option maxHeartbeats 4000000 in
set_option maxRecDepth 100000 in
theorem x_X5_missing {l : Launch} (hlt : l.stackTraces = false) {G : dG} {a : Int32}  : cXI l yX5_missing cX5_missing 3 (some .int) 1 G [.ref (ra G 0), .int a] nIOO := by
  refine cXI_of (by decide +kernel) rfl (Nat.le_of_ble_eq_true rfl) ?_
  intro p e s m args below meth c ls B hM hl
  have X := B.1
  have hS : dS G s.heap s.heap [] := va_S.rf
  refine lv_aload_n X.1 X.2.1 dX5_missing_0 rfl (lv_at hl 0 rfl) ?_
  refine lv_iload_n X.1 X.2.1 dX5_missing_1 rfl (lv_at hl 1 rfl) ?_
  exact kXVV (As := [_]) B hM hS hl.1 (x_X5_needCoupon hlt) rfl kl_X5_118 mf_X5_needCoupon ⟨Nat.le_of_ble_eq_true rfl, Nat.le_of_ble_eq_true rfl⟩ ⟨Nat.le_of_ble_eq_true rfl, Nat.le_of_ble_eq_true rfl⟩ rfl (Nat.le_of_ble_eq_true rfl) dX5_missing_2

set_option maxHeartbeats 4000000 in
set_option maxRecDepth 100000 in
theorem x_X5_worth {l : Launch} (hlt : l.stackTraces = false) {G : dG} {a : Int32}  : cXI l yX5_worth cX5_worth 2 (some .int) 1 G [.ref (ra G 0), .int a] nIOO := by
  refine cXI_of (by decide +kernel) rfl (Nat.le_of_ble_eq_true rfl) ?_
  intro p e s m args below meth c ls B hM hl
  have X := B.1
  have hS : dS G s.heap s.heap [] := va_S.rf
  refine lv_aload_n X.1 X.2.1 dX5_worth_0 rfl (lv_at hl 0 rfl) ?_
  refine lv_iload_n X.1 X.2.1 dX5_worth_1 rfl (lv_at hl 1 rfl) ?_
  exact kXVV (As := [_]) B hM hS hl.1 (x_X5_needCoupon hlt) rfl kl_X5_118 mf_X5_needCoupon ⟨Nat.le_of_ble_eq_true rfl, Nat.le_of_ble_eq_true rfl⟩ ⟨Nat.le_of_ble_eq_true rfl, Nat.le_of_ble_eq_true rfl⟩ rfl (Nat.le_of_ble_eq_true rfl) dX5_worth_2

set_option maxHeartbeats 4000000 in
set_option maxRecDepth 100000 in
theorem x_X5_isAllowed {l : Launch} (hlt : l.stackTraces = false) {G : dG} {a : Int32} (ha : inR a 0 0 = false) : cXI l yX5_isAllowed cX5_isAllowed 2 (some .boolean) 1 G [.ref (ra G 0), .int a] nIAE := by
  refine cXI_of (by decide +kernel) rfl (Nat.le_of_ble_eq_true rfl) ?_
  intro p e s m args below meth c ls B hM hl
  have X := B.1
  have hS : dS G s.heap s.heap [] := va_S.rf
  refine lv_aload_n X.1 X.2.1 dX5_isAllowed_0 rfl (lv_at hl 0 rfl) ?_
  refine lv_iload_n X.1 X.2.1 dX5_isAllowed_1 rfl (lv_at hl 1 rfl) ?_
  exact kXVV (As := [_]) B hM hS hl.1 (x_X5_needCoupons hlt ha) rfl kl_X5_141 mf_X5_needCoupons ⟨Nat.le_of_ble_eq_true rfl, Nat.le_of_ble_eq_true rfl⟩ ⟨Nat.le_of_ble_eq_true rfl, Nat.le_of_ble_eq_true rfl⟩ rfl (Nat.le_of_ble_eq_true rfl) dX5_isAllowed_2

set_option maxHeartbeats 4000000 in
set_option maxRecDepth 100000 in
theorem x_X5_goods {l : Launch} (hlt : l.stackTraces = false) {G : dG} {a : Int32} (ha : inR a 0 0 = false) : cXI l yX5_goods cX5_goods 2 (some .int) 1 G [.ref (ra G 0), .int a] nIAE := by
  refine cXI_of (by decide +kernel) rfl (Nat.le_of_ble_eq_true rfl) ?_
  intro p e s m args below meth c ls B hM hl
  have X := B.1
  have hS : dS G s.heap s.heap [] := va_S.rf
  refine lv_aload_n X.1 X.2.1 dX5_goods_0 rfl (lv_at hl 0 rfl) ?_
  refine lv_iload_n X.1 X.2.1 dX5_goods_1 rfl (lv_at hl 1 rfl) ?_
  exact kXVV (As := [_]) B hM hS hl.1 (x_X5_needCoupons hlt ha) rfl kl_X5_141 mf_X5_needCoupons ⟨Nat.le_of_ble_eq_true rfl, Nat.le_of_ble_eq_true rfl⟩ ⟨Nat.le_of_ble_eq_true rfl, Nat.le_of_ble_eq_true rfl⟩ rfl (Nat.le_of_ble_eq_true rfl) dX5_goods_2

set_option maxHeartbeats 4000000 in
set_option maxRecDepth 100000 in
theorem x_X5_total {l : Launch} (hlt : l.stackTraces = false) {G : dG} {a : Int32} (ha : inR a 0 0 = false) : cXI l yX5_total cX5_total 3 (some .int) 1 G [.ref (ra G 0), .int a] nIAE := by
  refine cXI_of (by decide +kernel) rfl (Nat.le_of_ble_eq_true rfl) ?_
  intro p e s m args below meth c ls B hM hl
  have X := B.1
  have hS : dS G s.heap s.heap [] := va_S.rf
  refine lv_aload_n X.1 X.2.1 dX5_total_0 rfl (lv_at hl 0 rfl) ?_
  refine lv_iload_n X.1 X.2.1 dX5_total_1 rfl (lv_at hl 1 rfl) ?_
  exact kXVV (As := [_]) B hM hS hl.1 (x_X5_needCoupons hlt ha) rfl kl_X5_141 mf_X5_needCoupons ⟨Nat.le_of_ble_eq_true rfl, Nat.le_of_ble_eq_true rfl⟩ ⟨Nat.le_of_ble_eq_true rfl, Nat.le_of_ble_eq_true rfl⟩ rfl (Nat.le_of_ble_eq_true rfl) dX5_total_2

set_option maxHeartbeats 4000000 in
set_option maxRecDepth 100000 in
theorem x_X5_buy1 {l : Launch} (hlt : l.stackTraces = false) {G : dG} {a : Int32} (ha : inR a 0 0 = false) : cXI l yX5_buy cX5_buy 4 (some .int) 1 G [.ref (ra G 0), .int a] nIAE := by
  refine cXI_of (by decide +kernel) rfl (Nat.le_of_ble_eq_true rfl) ?_
  intro p e s m args below meth c ls B hM hl
  have X := B.1
  have hS : dS G s.heap s.heap [] := va_S.rf
  refine lv_aload_n X.1 X.2.1 dX5_buy_0 rfl (lv_at hl 0 rfl) ?_
  refine lv_iload_n X.1 X.2.1 dX5_buy_1 rfl (lv_at hl 1 rfl) ?_
  exact kXVV (As := [_]) B hM hS hl.1 (x_X5_needCoupons hlt ha) rfl kl_X5_141 mf_X5_needCoupons ⟨Nat.le_of_ble_eq_true rfl, Nat.le_of_ble_eq_true rfl⟩ ⟨Nat.le_of_ble_eq_true rfl, Nat.le_of_ble_eq_true rfl⟩ rfl (Nat.le_of_ble_eq_true rfl) dX5_buy_2

set_option maxHeartbeats 4000000 in
set_option maxRecDepth 100000 in
theorem x_X5_rest1 {l : Launch} (hlt : l.stackTraces = false) {G : dG} {a b : Int32} (ha : inR a 0 0 = false) : cXI l yX5_rest cX5_rest 3 (some .int) 1 G [.ref (ra G 0), .int a, .int b] nIAE := by
  refine cXI_of (by decide +kernel) rfl (Nat.le_of_ble_eq_true rfl) ?_
  intro p e s m args below meth c ls B hM hl
  have X := B.1
  have hS : dS G s.heap s.heap [] := va_S.rf
  refine lv_aload_n X.1 X.2.1 dX5_rest_0 rfl (lv_at hl 0 rfl) ?_
  refine lv_iload_n X.1 X.2.1 dX5_rest_1 rfl (lv_at hl 1 rfl) ?_
  exact kXVV (As := [_]) B hM hS hl.1 (x_X5_needCoupons hlt ha) rfl kl_X5_141 mf_X5_needCoupons ⟨Nat.le_of_ble_eq_true rfl, Nat.le_of_ble_eq_true rfl⟩ ⟨Nat.le_of_ble_eq_true rfl, Nat.le_of_ble_eq_true rfl⟩ rfl (Nat.le_of_ble_eq_true rfl) dX5_rest_2

set_option maxHeartbeats 4000000 in
set_option maxRecDepth 100000 in
theorem x_X5_rest2 {l : Launch} (hlt : l.stackTraces = false) {G : dG} {b : Int32}  : cXI l yX5_rest cX5_rest 3 (some .int) 1 G [.ref (ra G 0), .int (nI 0), .int b] nIOO := by
  refine cXI_of (by decide +kernel) rfl (Nat.le_of_ble_eq_true rfl) ?_
  intro p e s m args below meth c ls B hM hl
  have X := B.1
  have hS : dS G s.heap s.heap [] := va_S.rf
  refine lv_aload_n X.1 X.2.1 dX5_rest_0 rfl (lv_at hl 0 rfl) ?_
  refine lv_iload_n X.1 X.2.1 dX5_rest_1 rfl (lv_at hl 1 rfl) ?_
  refine kVV (As := [_]) X hM hS hl.1 (c_X5_needCoupons (st := 0) nu0_WD (by decide)) (by decide) (dE_desk G _) rfl rfl kl_X5_141 mf_X5_needCoupons ⟨Nat.le_of_ble_eq_true rfl, Nat.le_of_ble_eq_true rfl⟩ ⟨Nat.zero_le _, Nat.zero_le _⟩ rfl (Nat.le_of_ble_eq_true rfl) dX5_rest_2 (fun ν2 H locs hp2 hM hS => ?_)
  subst hp2
  refine lv_aload_n X.1 X.2.1 dX5_rest_5 rfl (lv_at hl 0 rfl) ?_
  refine lv_iload_n X.1 X.2.1 dX5_rest_6 rfl (lv_at hl 2 rfl) ?_
  exact kXVV (As := [_]) B hM hS hl.1 (x_X5_needArticle hlt) rfl kl_X5_84 mf_X5_needArticle ⟨Nat.le_of_ble_eq_true rfl, Nat.le_of_ble_eq_true rfl⟩ ⟨Nat.le_of_ble_eq_true rfl, Nat.le_of_ble_eq_true rfl⟩ rfl (Nat.le_of_ble_eq_true rfl) dX5_rest_7

set_option maxHeartbeats 4000000 in
set_option maxRecDepth 100000 in
theorem x_X5_buy2 {l : Launch} (hlt : l.stackTraces = false) {G : dG}   : cXI l yX5_buy cX5_buy 4 (some .int) 5 G [.ref (ra G 0), .int (nI 0)] nISE := by
  refine cXI_of (by decide +kernel) rfl (Nat.le_of_ble_eq_true rfl) ?_
  intro p e s m args below meth c ls B hM hl
  have X := B.1
  have hS : dS G s.heap s.heap [] := va_S.rf
  refine lv_aload_n X.1 X.2.1 dX5_buy_0 rfl (lv_at hl 0 rfl) ?_
  refine lv_iload_n X.1 X.2.1 dX5_buy_1 rfl (lv_at hl 1 rfl) ?_
  refine kVV (As := [_]) X hM hS hl.1 (c_X5_needCoupons (st := 0) nu0_WD (by decide)) (by decide) (dE_desk G _) rfl rfl kl_X5_141 mf_X5_needCoupons ⟨Nat.le_of_ble_eq_true rfl, Nat.le_of_ble_eq_true rfl⟩ ⟨Nat.zero_le _, Nat.zero_le _⟩ rfl (Nat.le_of_ble_eq_true rfl) dX5_buy_2 (fun ν2 H locs hp2 hM hS => ?_)
  subst hp2
  refine lv_aload_n X.1 X.2.1 dX5_buy_5 rfl (lv_at hl 0 rfl) ?_
  refine lv_iload_n X.1 X.2.1 dX5_buy_6 rfl (lv_at hl 1 rfl) ?_
  refine kVV (As := [_]) X hM hS hl.1 (c_X5_needAllowed (st := 0) nu0_WD (by decide) nu0_al) (by decide) (dE_desk G _) rfl rfl kl_X5_148 mf_X5_needAllowed ⟨Nat.le_of_ble_eq_true rfl, Nat.le_of_ble_eq_true rfl⟩ ⟨Nat.zero_le _, Nat.zero_le _⟩ rfl (Nat.le_of_ble_eq_true rfl) dX5_buy_7 (fun ν7 H locs hp7 hM hS => ?_)
  subst hp7
  refine lv_aload_n X.1 X.2.1 dX5_buy_10 rfl (lv_at hl 0 rfl) ?_
  refine m_get (ci := 5) (C := RX5) (T := TX5) (N := 10) X hM inA5 (by decide) (dE_desk G _) rfl 0 (by decide) kl_X5_12 rfl rfl dX5_buy_11 ?_
  refine kNI (As := []) X hM hS hl.1 (c_X1_countOfPieces lotB_1) (by have := lotB.lt lotB_1; omega) (dE_lot lotB_1 G _) rfl rfl kl_X5_177 mf_X1_countOfPieces ⟨Nat.le_of_ble_eq_true rfl, Nat.le_of_ble_eq_true rfl⟩ ⟨Nat.zero_le _, Nat.zero_le _⟩ rfl (Nat.le_of_ble_eq_true rfl) dX5_buy_14 (fun r14 ν14 H locs hp14 hM hS => ?_)
  obtain ⟨rfl, e14⟩ := hp14
  subst e14
  refine r_as (b := 0) nu0_cnt ?_
  refine lv_if_ne (tgt := 30) X.1 X.2.1 dX5_buy_17 (by decide) (fun h17 => absurd (by decide) h17) (fun h17 => ?_)
  exact x_throw (text := "the basket is empty") hlt B hM hS hl.1 xOK_ISE (by decide) ⟨Nat.le_of_ble_eq_true rfl, Nat.le_of_ble_eq_true rfl, Nat.le_of_ble_eq_true rfl, Nat.le_of_ble_eq_true rfl⟩ dX5_buy_20 dX5_buy_23 dX5_buy_24 dX5_buy_26 dX5_buy_29

set_option maxHeartbeats 4000000 in
set_option maxRecDepth 100000 in
theorem x_X5_giveBack {l : Launch} (hlt : l.stackTraces = false) {G : dG} {a b c : Int32}  : cXI l yX5_giveBack cX5_giveBack 7 (some .int) 1 G [.ref (ra G 0), .int a, .int b, .int c] nIOO := by
  refine cXI_of (by decide +kernel) rfl (Nat.le_of_ble_eq_true rfl) ?_
  intro p e s m args below meth c ls B hM hl
  have X := B.1
  have hS : dS G s.heap s.heap [] := va_S.rf
  refine lv_aload_n X.1 X.2.1 dX5_giveBack_0 rfl (lv_at hl 0 rfl) ?_
  refine lv_iload_n X.1 X.2.1 dX5_giveBack_1 rfl (lv_at hl 1 rfl) ?_
  exact kXVV (As := [_]) B hM hS hl.1 (x_X5_needOrder hlt) rfl kl_X5_194 mf_X5_needOrder ⟨Nat.le_of_ble_eq_true rfl, Nat.le_of_ble_eq_true rfl⟩ ⟨Nat.le_of_ble_eq_true rfl, Nat.le_of_ble_eq_true rfl⟩ rfl (Nat.le_of_ble_eq_true rfl) dX5_giveBack_2

set_option maxHeartbeats 4000000 in
set_option maxRecDepth 100000 in
theorem x_X5_order {l : Launch} (hlt : l.stackTraces = false) {G : dG} {a b : Int32}  : cXI l yX5_order cX5_order 3 (some .int) 1 G [.ref (ra G 0), .int a, .int b] nIOO := by
  refine cXI_of (by decide +kernel) rfl (Nat.le_of_ble_eq_true rfl) ?_
  intro p e s m args below meth c ls B hM hl
  have X := B.1
  have hS : dS G s.heap s.heap [] := va_S.rf
  refine lv_aload_n X.1 X.2.1 dX5_order_0 rfl (lv_at hl 0 rfl) ?_
  refine lv_iload_n X.1 X.2.1 dX5_order_1 rfl (lv_at hl 1 rfl) ?_
  exact kXVV (As := [_]) B hM hS hl.1 (x_X5_needOrder hlt) rfl kl_X5_194 mf_X5_needOrder ⟨Nat.le_of_ble_eq_true rfl, Nat.le_of_ble_eq_true rfl⟩ ⟨Nat.le_of_ble_eq_true rfl, Nat.le_of_ble_eq_true rfl⟩ rfl (Nat.le_of_ble_eq_true rfl) dX5_order_2

set_option maxHeartbeats 4000000 in
set_option maxRecDepth 100000 in
theorem x_X5_pieces {l : Launch} (hlt : l.stackTraces = false) {G : dG} {a b : Int32}  : cXI l yX5_pieces cX5_pieces 3 (some .int) 1 G [.ref (ra G 0), .int a, .int b] nIOO := by
  refine cXI_of (by decide +kernel) rfl (Nat.le_of_ble_eq_true rfl) ?_
  intro p e s m args below meth c ls B hM hl
  have X := B.1
  have hS : dS G s.heap s.heap [] := va_S.rf
  refine lv_aload_n X.1 X.2.1 dX5_pieces_0 rfl (lv_at hl 0 rfl) ?_
  refine lv_iload_n X.1 X.2.1 dX5_pieces_1 rfl (lv_at hl 1 rfl) ?_
  exact kXVV (As := [_]) B hM hS hl.1 (x_X5_needOrder hlt) rfl kl_X5_194 mf_X5_needOrder ⟨Nat.le_of_ble_eq_true rfl, Nat.le_of_ble_eq_true rfl⟩ ⟨Nat.le_of_ble_eq_true rfl, Nat.le_of_ble_eq_true rfl⟩ rfl (Nat.le_of_ble_eq_true rfl) dX5_pieces_2
