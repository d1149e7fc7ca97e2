/-! ===== the model's methods on a fresh model ===== -/
/-- thrown is k behind the call, and the answer is v where that is 0 -/
def mSpec (k v : Int32) : Int32 → (Nat → Int32) → Prop := fun x o => o 0 = k ∧ (k = 0 → x = v)
theorem mSpec_0 {k v x : Int32} {o : Nat → Int32} (h : k = 0) (ho : o 0 = 0) (hx : x = v) : mSpec k v x o := ⟨ho.trans h.symm, fun _ => hx⟩
theorem mSpec_n {k v x n : Int32} {o : Nat → Int32} (h : k = n) (hn : n ≠ 0) (ho : o 0 = n) : mSpec k v x o := ⟨ho.trans h.symm, fun h0 => absurd (h.symm.trans h0) hn⟩
set_option maxHeartbeats 4000000 in
set_option maxRecDepth 100000 in
theorem c_X6_thrown {l : Launch} {J : mG} {o : Nat → Int32} : mMet l yX6_thrown cX6_thrown 1 (some .int) 0 0 0 J [.ref (ja J 0)] (o) (fun sz => mQi J sz (fun x o1 => x = o 0 ∧ o1 = o)) := by
  refine mMet_of (by decide +kernel) (Nat.le_of_ble_eq_true rfl) ?_
  intro p e s m args below meth c ls X hM hret hlk hl
  have hS : mS J s.heap s.heap [] := va_S.rf
  refine lv_aload_n X.1 X.2.1 dX6_thrown_0 rfl (lv_at hl 0 rfl) ?_
  refine q_get (v := .int (o 0)) X hM 0 (by decide) kl_X6_42 rfl rfl dX6_thrown_1 ?_
  exact qI ⟨rfl, rfl⟩ X hM hS hret hlk dX6_thrown_4

set_option maxHeartbeats 4000000 in
set_option maxRecDepth 100000 in
theorem c_X6_fail {l : Launch} {J : mG} {t a : Int32} : mMet l yX6_fail cX6_fail 2 (some .int) 0 0 0 J [.ref (ja J 0), .int a] (oF t) (fun sz => mQi J sz (fun x o1 => x = 0 ∧ o1 = oF a)) := by
  refine mMet_of (by decide +kernel) (Nat.le_of_ble_eq_true rfl) ?_
  intro p e s m args below meth c ls X hM hret hlk hl
  have hS : mS J s.heap s.heap [] := va_S.rf
  refine lv_aload_n X.1 X.2.1 dX6_fail_0 rfl (lv_at hl 0 rfl) ?_
  refine lv_iload_n X.1 X.2.1 dX6_fail_1 rfl (lv_at hl 1 rfl) ?_
  refine q_put X hM hS 0 (by decide) kl_X6_42 rfl rfl (by decide +kernel) rfl dX6_fail_2 (fun H locs hM hS => ?_)
  rw [oF_0] at hM
  refine lv_iconst (v := 0) X.1 X.2.1 dX6_fail_5 (by decide) ?_
  exact qI ⟨rfl, rfl⟩ X hM hS hret hlk dX6_fail_6

set_option maxHeartbeats 4000000 in
set_option maxRecDepth 100000 in
theorem c_X6_isIn {l : Launch} {J : mG} {o : Nat → Int32} {a lo hi : Int32} : mMet l yX6_isIn cX6_isIn 3 (some .boolean) 0 0 0 J [.int a, .int lo, .int hi] (o) (fun sz => mQi J sz (fun x o1 => x = bI (inR a lo hi) ∧ o1 = o)) := by
  refine mMet_of (by decide +kernel) (Nat.le_of_ble_eq_true rfl) ?_
  intro p e s m args below meth c ls X hM hret hlk hl
  have hS : mS J s.heap s.heap [] := va_S.rf
  refine lv_iload_n X.1 X.2.1 dX6_isIn_0 rfl (lv_at hl 0 rfl) ?_
  refine lv_iload_n X.1 X.2.1 dX6_isIn_1 rfl (lv_at hl 1 rfl) ?_
  refine lv_icmp_lt (tgt := 14) X.1 X.2.1 dX6_isIn_2 (by decide) (fun h2 => ?_) (fun h2 => ?_)
  · refine lv_iconst (v := 0) X.1 X.2.1 dX6_isIn_14 (by decide) ?_
    exact qZ ⟨by rw [inR_fl h2]; rfl, rfl⟩ X hM hS hret hlk (by decide) dX6_isIn_15
  · refine lv_iload_n X.1 X.2.1 dX6_isIn_5 rfl (lv_at hl 0 rfl) ?_
    refine lv_iload_n X.1 X.2.1 dX6_isIn_6 rfl (lv_at hl 2 rfl) ?_
    refine lv_icmp_gt (tgt := 14) X.1 X.2.1 dX6_isIn_7 (by decide) (fun h7 => ?_) (fun h7 => ?_)
    · refine lv_iconst (v := 0) X.1 X.2.1 dX6_isIn_14 (by decide) ?_
      exact qZ ⟨by rw [inR_fh h7]; rfl, rfl⟩ X hM hS hret hlk (by decide) dX6_isIn_15
    · refine lv_iconst (v := 1) X.1 X.2.1 dX6_isIn_10 (by decide) ?_
      refine lv_goto (tgt := 15) X.1 X.2.1 dX6_isIn_11 (by decide) ?_
      exact qZ ⟨by rw [inR_t h2 h7]; rfl, rfl⟩ X hM hS hret hlk (by decide) dX6_isIn_15

set_option maxHeartbeats 4000000 in
set_option maxRecDepth 100000 in
theorem c_X6_isArticle {l : Launch} {J : mG} {t a : Int32} : mMet l yX6_isArticle cX6_isArticle 2 (some .boolean) 1 0 0 J [.ref (ja J 0), .int a] (oF t) (fun sz => mQi J sz (fun x o1 => x = 0 ∧ o1 = oF t)) := by
  refine mMet_of (by decide +kernel) (Nat.le_of_ble_eq_true rfl) ?_
  intro p e s m args below meth c ls X hM hret hlk hl
  have hS : mS J s.heap s.heap [] := va_S.rf
  refine lv_iload_n X.1 X.2.1 dX6_isArticle_0 rfl (lv_at hl 1 rfl) ?_
  refine lv_iconst (v := 0) X.1 X.2.1 dX6_isArticle_1 (by decide) ?_
  refine lv_aload_n X.1 X.2.1 dX6_isArticle_2 rfl (lv_at hl 0 rfl) ?_
  refine q_get (v := .int 0) X hM 1 (by decide) kl_X6_45 rfl rfl dX6_isArticle_3 ?_
  refine lv_iconst (v := 1) X.1 X.2.1 dX6_isArticle_6 (by decide) ?_
  refine lv_isub X.1 X.2.1 dX6_isArticle_7 ?_
  refine r_as (b := (-1)) (by decide) ?_
  refine kMS (As := [_, _, _]) X hM hS hl.1 c_X6_isIn kl_X6_48 mf_X6_isIn ⟨Nat.le_of_ble_eq_true rfl, Nat.le_of_ble_eq_true rfl⟩ ⟨Nat.zero_le _, Nat.zero_le _⟩ rfl (Nat.le_of_ble_eq_true rfl) dX6_isArticle_8 (fun r8 o8 H locs hp8 hM hS => ?_)
  obtain ⟨e8, g8⟩ := hp8
  replace g8 := g8.symm
  subst g8
  exact qZ (r := r8) (by rw [e8, inR_m1]; exact ⟨rfl, rfl⟩) X hM hS hret hlk (by rw [e8, inR_m1]; decide) dX6_isArticle_11

set_option maxHeartbeats 4000000 in
set_option maxRecDepth 100000 in
theorem c_X6_isCoupon {l : Launch} {J : mG} {t a : Int32} : mMet l yX6_isCoupon cX6_isCoupon 2 (some .boolean) 1 0 0 J [.ref (ja J 0), .int a] (oF t) (fun sz => mQi J sz (fun x o1 => x = 0 ∧ o1 = oF t)) := by
  refine mMet_of (by decide +kernel) (Nat.le_of_ble_eq_true rfl) ?_
  intro p e s m args below meth c ls X hM hret hlk hl
  have hS : mS J s.heap s.heap [] := va_S.rf
  refine lv_iload_n X.1 X.2.1 dX6_isCoupon_0 rfl (lv_at hl 1 rfl) ?_
  refine lv_iconst (v := 0) X.1 X.2.1 dX6_isCoupon_1 (by decide) ?_
  refine lv_aload_n X.1 X.2.1 dX6_isCoupon_2 rfl (lv_at hl 0 rfl) ?_
  refine q_get (v := .int 0) X hM 7 (by decide) kl_X6_52 rfl rfl dX6_isCoupon_3 ?_
  refine lv_iconst (v := 1) X.1 X.2.1 dX6_isCoupon_6 (by decide) ?_
  refine lv_isub X.1 X.2.1 dX6_isCoupon_7 ?_
  refine r_as (b := (-1)) (by decide) ?_
  refine kMS (As := [_, _, _]) X hM hS hl.1 c_X6_isIn kl_X6_48 mf_X6_isIn ⟨Nat.le_of_ble_eq_true rfl, Nat.le_of_ble_eq_true rfl⟩ ⟨Nat.zero_le _, Nat.zero_le _⟩ rfl (Nat.le_of_ble_eq_true rfl) dX6_isCoupon_8 (fun r8 o8 H locs hp8 hM hS => ?_)
  obtain ⟨e8, g8⟩ := hp8
  replace g8 := g8.symm
  subst g8
  exact qZ (r := r8) (by rw [e8, inR_m1]; exact ⟨rfl, rfl⟩) X hM hS hret hlk (by rw [e8, inR_m1]; decide) dX6_isCoupon_11

set_option maxHeartbeats 4000000 in
set_option maxRecDepth 100000 in
theorem c_X6_isOrder {l : Launch} {J : mG} {t a : Int32} : mMet l yX6_isOrder cX6_isOrder 2 (some .boolean) 1 0 0 J [.ref (ja J 0), .int a] (oF t) (fun sz => mQi J sz (fun x o1 => x = 0 ∧ o1 = oF t)) := by
  refine mMet_of (by decide +kernel) (Nat.le_of_ble_eq_true rfl) ?_
  intro p e s m args below meth c ls X hM hret hlk hl
  have hS : mS J s.heap s.heap [] := va_S.rf
  refine lv_iload_n X.1 X.2.1 dX6_isOrder_0 rfl (lv_at hl 1 rfl) ?_
  refine lv_iconst (v := 0) X.1 X.2.1 dX6_isOrder_1 (by decide) ?_
  refine lv_aload_n X.1 X.2.1 dX6_isOrder_2 rfl (lv_at hl 0 rfl) ?_
  refine q_get (v := .int 0) X hM 9 (by decide) kl_X6_55 rfl rfl dX6_isOrder_3 ?_
  refine lv_iconst (v := 1) X.1 X.2.1 dX6_isOrder_6 (by decide) ?_
  refine lv_isub X.1 X.2.1 dX6_isOrder_7 ?_
  refine r_as (b := (-1)) (by decide) ?_
  refine kMS (As := [_, _, _]) X hM hS hl.1 c_X6_isIn kl_X6_48 mf_X6_isIn ⟨Nat.le_of_ble_eq_true rfl, Nat.le_of_ble_eq_true rfl⟩ ⟨Nat.zero_le _, Nat.zero_le _⟩ rfl (Nat.le_of_ble_eq_true rfl) dX6_isOrder_8 (fun r8 o8 H locs hp8 hM hS => ?_)
  obtain ⟨e8, g8⟩ := hp8
  replace g8 := g8.symm
  subst g8
  exact qZ (r := r8) (by rw [e8, inR_m1]; exact ⟨rfl, rfl⟩) X hM hS hret hlk (by rw [e8, inR_m1]; decide) dX6_isOrder_11

set_option maxHeartbeats 4000000 in
set_option maxRecDepth 100000 in
theorem c_X6_areCoupons {l : Launch} {J : mG} {t a : Int32} : mMet l yX6_areCoupons cX6_areCoupons 2 (some .boolean) 1 0 0 J [.ref (ja J 0), .int a] (oF t) (fun sz => mQi J sz (fun x o1 => x = bI (inR a 0 0) ∧ o1 = oF t)) := by
  refine mMet_of (by decide +kernel) (Nat.le_of_ble_eq_true rfl) ?_
  intro p e s m args below meth c ls X hM hret hlk hl
  have hS : mS J s.heap s.heap [] := va_S.rf
  refine lv_iload_n X.1 X.2.1 dX6_areCoupons_0 rfl (lv_at hl 1 rfl) ?_
  refine lv_iconst (v := 0) X.1 X.2.1 dX6_areCoupons_1 (by decide) ?_
  refine lv_iconst (v := 1) X.1 X.2.1 dX6_areCoupons_2 (by decide) ?_
  refine lv_aload_n X.1 X.2.1 dX6_areCoupons_3 rfl (lv_at hl 0 rfl) ?_
  refine q_get (v := .int 0) X hM 7 (by decide) kl_X6_52 rfl rfl dX6_areCoupons_4 ?_
  refine lv_ishl X.1 X.2.1 dX6_areCoupons_7 ?_
  refine r_as (b := 1) (by decide) ?_
  refine lv_iconst (v := 1) X.1 X.2.1 dX6_areCoupons_8 (by decide) ?_
  refine lv_isub X.1 X.2.1 dX6_areCoupons_9 ?_
  refine r_as (b := 0) (by decide) ?_
  refine kMS (As := [_, _, _]) X hM hS hl.1 c_X6_isIn kl_X6_48 mf_X6_isIn ⟨Nat.le_of_ble_eq_true rfl, Nat.le_of_ble_eq_true rfl⟩ ⟨Nat.zero_le _, Nat.zero_le _⟩ rfl (Nat.le_of_ble_eq_true rfl) dX6_areCoupons_10 (fun r10 o10 H locs hp10 hM hS => ?_)
  obtain ⟨e10, g10⟩ := hp10
  replace g10 := g10.symm
  subst g10
  rcases bI_cases e10 with ⟨hb10, rfl⟩ | ⟨hb10, rfl⟩
  · exact qZ ⟨by rw [hb10]; rfl, rfl⟩ X hM hS hret hlk (by decide) dX6_areCoupons_13
  · exact qZ ⟨by rw [hb10]; rfl, rfl⟩ X hM hS hret hlk (by decide) dX6_areCoupons_13

set_option maxHeartbeats 4000000 in
set_option maxRecDepth 100000 in
theorem c_X6_valueOf {l : Launch} {J : mG} {t a : Int32} : mMet l yX6_valueOf cX6_valueOf 4 (some .int) 0 0 0 J [.ref (ja J 0), .int a] (oF t) (fun sz => mQi J sz (fun x o1 => x = 0 ∧ o1 = oF t)) := by
  refine mMet_of (by decide +kernel) (Nat.le_of_ble_eq_true rfl) ?_
  intro p e s m args below meth c ls X hM hret hlk hl
  have hS : mS J s.heap s.heap [] := va_S.rf
  refine lv_iconst (v := 0) X.1 X.2.1 dX6_valueOf_0 (by decide) ?_
  refine lv_istore_n X.1 X.2.1 dX6_valueOf_1 rfl hl (by decide) rfl (fun ls hl => ?_)
  replace hl : lv_has ls 4 [(2, _), (0, _), (1, _)] := hl
  refine lv_iconst (v := 0) X.1 X.2.1 dX6_valueOf_2 (by decide) ?_
  refine lv_istore_n X.1 X.2.1 dX6_valueOf_3 rfl hl (by decide) rfl (fun ls hl => ?_)
  replace hl : lv_has ls 4 [(3, _), (2, _), (0, _), (1, _)] := hl
  refine lv_iload_n X.1 X.2.1 dX6_valueOf_4 rfl (lv_at hl 0 rfl) ?_
  refine lv_aload_n X.1 X.2.1 dX6_valueOf_5 rfl (lv_at hl 2 rfl) ?_
  refine q_get (v := .int 0) X hM 1 (by decide) kl_X6_45 rfl rfl dX6_valueOf_6 ?_
  refine lv_icmp_ge (tgt := 44) X.1 X.2.1 dX6_valueOf_9 (by decide) (fun h9 => ?_) (fun h9 => absurd (by decide) h9)
  refine lv_iload_n X.1 X.2.1 dX6_valueOf_44 rfl (lv_at hl 1 rfl) ?_
  exact qI ⟨rfl, rfl⟩ X hM hS hret hlk dX6_valueOf_45

set_option maxHeartbeats 4000000 in
set_option maxRecDepth 100000 in
theorem c_X6_sizeOf {l : Launch} {J : mG} {t a : Int32} : mMet l yX6_sizeOf cX6_sizeOf 4 (some .int) 0 0 0 J [.ref (ja J 0), .int a] (oF t) (fun sz => mQi J sz (fun x o1 => x = 0 ∧ o1 = oF t)) := by
  refine mMet_of (by decide +kernel) (Nat.le_of_ble_eq_true rfl) ?_
  intro p e s m args below meth c ls X hM hret hlk hl
  have hS : mS J s.heap s.heap [] := va_S.rf
  refine lv_iconst (v := 0) X.1 X.2.1 dX6_sizeOf_0 (by decide) ?_
  refine lv_istore_n X.1 X.2.1 dX6_sizeOf_1 rfl hl (by decide) rfl (fun ls hl => ?_)
  replace hl : lv_has ls 4 [(2, _), (0, _), (1, _)] := hl
  refine lv_iconst (v := 0) X.1 X.2.1 dX6_sizeOf_2 (by decide) ?_
  refine lv_istore_n X.1 X.2.1 dX6_sizeOf_3 rfl hl (by decide) rfl (fun ls hl => ?_)
  replace hl : lv_has ls 4 [(3, _), (2, _), (0, _), (1, _)] := hl
  refine lv_iload_n X.1 X.2.1 dX6_sizeOf_4 rfl (lv_at hl 0 rfl) ?_
  refine lv_aload_n X.1 X.2.1 dX6_sizeOf_5 rfl (lv_at hl 2 rfl) ?_
  refine q_get (v := .int 0) X hM 1 (by decide) kl_X6_45 rfl rfl dX6_sizeOf_6 ?_
  refine lv_icmp_ge (tgt := 32) X.1 X.2.1 dX6_sizeOf_9 (by decide) (fun h9 => ?_) (fun h9 => absurd (by decide) h9)
  refine lv_iload_n X.1 X.2.1 dX6_sizeOf_32 rfl (lv_at hl 1 rfl) ?_
  exact qI ⟨rfl, rfl⟩ X hM hS hret hlk dX6_sizeOf_33

set_option maxHeartbeats 4000000 in
set_option maxRecDepth 100000 in
theorem c_X6_isAllowedNow {l : Launch} {J : mG} {t a : Int32} : mMet l yX6_isAllowedNow cX6_isAllowedNow 5 (some .boolean) 0 0 0 J [.ref (ja J 0), .int a] (oF t) (fun sz => mQi J sz (fun x o1 => x = 1 ∧ o1 = oF t)) := by
  refine mMet_of (by decide +kernel) (Nat.le_of_ble_eq_true rfl) ?_
  intro p e s m args below meth c ls X hM hret hlk hl
  have hS : mS J s.heap s.heap [] := va_S.rf
  refine lv_iconst (v := 1) X.1 X.2.1 dX6_isAllowedNow_0 (by decide) ?_
  refine lv_istore_n X.1 X.2.1 dX6_isAllowedNow_1 rfl hl (by decide) rfl (fun ls hl => ?_)
  replace hl : lv_has ls 5 [(2, _), (0, _), (1, _)] := hl
  refine lv_iconst (v := 0) X.1 X.2.1 dX6_isAllowedNow_2 (by decide) ?_
  refine lv_istore_n X.1 X.2.1 dX6_isAllowedNow_3 rfl hl (by decide) rfl (fun ls hl => ?_)
  replace hl : lv_has ls 5 [(3, _), (2, _), (0, _), (1, _)] := hl
  refine lv_iload_n X.1 X.2.1 dX6_isAllowedNow_4 rfl (lv_at hl 0 rfl) ?_
  refine lv_aload_n X.1 X.2.1 dX6_isAllowedNow_5 rfl (lv_at hl 2 rfl) ?_
  refine q_get (v := .int 0) X hM 7 (by decide) kl_X6_52 rfl rfl dX6_isAllowedNow_6 ?_
  refine lv_icmp_ge (tgt := 121) X.1 X.2.1 dX6_isAllowedNow_9 (by decide) (fun h9 => ?_) (fun h9 => absurd (by decide) h9)
  refine lv_iload_n X.1 X.2.1 dX6_isAllowedNow_121 rfl (lv_at hl 1 rfl) ?_
  exact qZ ⟨rfl, rfl⟩ X hM hS hret hlk (by decide) dX6_isAllowedNow_122

set_option maxHeartbeats 4000000 in
set_option maxRecDepth 100000 in
theorem c_X6_isValue {l : Launch} {J : mG} {o : Nat → Int32} {a b : Int32} : mMet l yX6_isValue cX6_isValue 2 (some .boolean) 1 0 0 J [.int a, .int b] (o) (fun sz => mQi J sz (fun x o1 => x = bI (isVal a b) ∧ o1 = o)) := by
  refine mMet_of (by decide +kernel) (Nat.le_of_ble_eq_true rfl) ?_
  intro p e s m args below meth c ls X hM hret hlk hl
  have hS : mS J s.heap s.heap [] := va_S.rf
  refine lv_iload_n X.1 X.2.1 dX6_isValue_0 rfl (lv_at hl 0 rfl) ?_
  refine lv_if_ne (tgt := 14) X.1 X.2.1 dX6_isValue_1 (by decide) (fun h1 => ?_) (fun h1 => ?_)
  · refine lv_iload_n X.1 X.2.1 dX6_isValue_14 rfl (lv_at hl 0 rfl) ?_
    refine lv_iconst (v := 1) X.1 X.2.1 dX6_isValue_15 (by decide) ?_
    refine lv_icmp_ne (tgt := 29) X.1 X.2.1 dX6_isValue_16 (by decide) (fun h16 => ?_) (fun h16 => ?_)
    · refine lv_iload_n X.1 X.2.1 dX6_isValue_29 rfl (lv_at hl 0 rfl) ?_
      refine lv_iconst (v := 2) X.1 X.2.1 dX6_isValue_30 (by decide) ?_
      refine lv_icmp_ne (tgt := 44) X.1 X.2.1 dX6_isValue_31 (by decide) (fun h31 => ?_) (fun h31 => ?_)
      · refine lv_iload_n X.1 X.2.1 dX6_isValue_44 rfl (lv_at hl 0 rfl) ?_
        refine lv_iconst (v := 3) X.1 X.2.1 dX6_isValue_45 (by decide) ?_
        refine lv_icmp_ne (tgt := 57) X.1 X.2.1 dX6_isValue_46 (by decide) (fun h46 => ?_) (fun h46 => ?_)
        · refine lv_iconst (v := 0) X.1 X.2.1 dX6_isValue_57 (by decide) ?_
          exact qZ ⟨by simp [isVal, bI, h1, h16, h31, h46], rfl⟩ X hM hS hret hlk (by decide) dX6_isValue_58
        · refine lv_iload_n X.1 X.2.1 dX6_isValue_49 rfl (lv_at hl 1 rfl) ?_
          refine lv_if_ne (tgt := 57) X.1 X.2.1 dX6_isValue_50 (by decide) (fun h50 => ?_) (fun h50 => ?_)
          · refine lv_iconst (v := 0) X.1 X.2.1 dX6_isValue_57 (by decide) ?_
            exact qZ ⟨by simp [isVal, bI, h1, h16, h31, h46, h50], rfl⟩ X hM hS hret hlk (by decide) dX6_isValue_58
          · refine lv_iconst (v := 1) X.1 X.2.1 dX6_isValue_53 (by decide) ?_
            refine lv_goto (tgt := 58) X.1 X.2.1 dX6_isValue_54 (by decide) ?_
            exact qZ ⟨by simp [isVal, bI, h1, h16, h31, h46, h50], rfl⟩ X hM hS hret hlk (by decide) dX6_isValue_58
      · refine lv_iload_n X.1 X.2.1 dX6_isValue_34 rfl (lv_at hl 1 rfl) ?_
        refine lv_iconst (v := 2) X.1 X.2.1 dX6_isValue_35 (by decide) ?_
        refine lv_bipush (v := 9) X.1 X.2.1 dX6_isValue_36 (by decide) ?_
        refine kMS (As := [_, _, _]) X hM hS hl.1 c_X6_isIn kl_X6_48 mf_X6_isIn ⟨Nat.le_of_ble_eq_true rfl, Nat.le_of_ble_eq_true rfl⟩ ⟨Nat.zero_le _, Nat.zero_le _⟩ rfl (Nat.le_of_ble_eq_true rfl) dX6_isValue_38 (fun r38 o38 H locs hp38 hM hS => ?_)
        obtain ⟨e38, g38⟩ := hp38
        replace g38 := g38.symm
        subst g38
        rcases bI_cases e38 with ⟨hb38, rfl⟩ | ⟨hb38, rfl⟩
        · refine lv_if_ne (tgt := 53) X.1 X.2.1 dX6_isValue_41 (by decide) (fun h41 => ?_) (fun h41 => absurd h41 (by decide))
          refine lv_iconst (v := 1) X.1 X.2.1 dX6_isValue_53 (by decide) ?_
          refine lv_goto (tgt := 58) X.1 X.2.1 dX6_isValue_54 (by decide) ?_
          exact qZ ⟨by simp [isVal, bI, h1, h16, h31, hb38], rfl⟩ X hM hS hret hlk (by decide) dX6_isValue_58
        · refine lv_if_ne (tgt := 53) X.1 X.2.1 dX6_isValue_41 (by decide) (fun h41 => absurd (by decide) h41) (fun h41 => ?_)
          refine lv_iload_n X.1 X.2.1 dX6_isValue_44 rfl (lv_at hl 0 rfl) ?_
          refine lv_iconst (v := 3) X.1 X.2.1 dX6_isValue_45 (by decide) ?_
          refine lv_icmp_ne (tgt := 57) X.1 X.2.1 dX6_isValue_46 (by decide) (fun h46 => ?_) (fun h46 => absurd (h31.symm.trans h46) (by decide))
          refine lv_iconst (v := 0) X.1 X.2.1 dX6_isValue_57 (by decide) ?_
          exact qZ ⟨by simp [isVal, bI, h1, h16, h31, h46, hb38], rfl⟩ X hM hS hret hlk (by decide) dX6_isValue_58
    · refine lv_iload_n X.1 X.2.1 dX6_isValue_19 rfl (lv_at hl 1 rfl) ?_
      refine lv_iconst (v := 1) X.1 X.2.1 dX6_isValue_20 (by decide) ?_
      refine lv_ldc (v := 100000) X.1 X.2.1 X.2.2.2.1 (X.2.2.2.2.1 _ kl_X6_72) dX6_isValue_21 ?_
      refine kMS (As := [_, _, _]) X hM hS hl.1 c_X6_isIn kl_X6_48 mf_X6_isIn ⟨Nat.le_of_ble_eq_true rfl, Nat.le_of_ble_eq_true rfl⟩ ⟨Nat.zero_le _, Nat.zero_le _⟩ rfl (Nat.le_of_ble_eq_true rfl) dX6_isValue_23 (fun r23 o23 H locs hp23 hM hS => ?_)
      obtain ⟨e23, g23⟩ := hp23
      replace g23 := g23.symm
      subst g23
      rcases bI_cases e23 with ⟨hb23, rfl⟩ | ⟨hb23, rfl⟩
      · refine lv_if_ne (tgt := 53) X.1 X.2.1 dX6_isValue_26 (by decide) (fun h26 => ?_) (fun h26 => absurd h26 (by decide))
        refine lv_iconst (v := 1) X.1 X.2.1 dX6_isValue_53 (by decide) ?_
        refine lv_goto (tgt := 58) X.1 X.2.1 dX6_isValue_54 (by decide) ?_
        exact qZ ⟨by simp [isVal, bI, h1, h16, hb23], rfl⟩ X hM hS hret hlk (by decide) dX6_isValue_58
      · refine lv_if_ne (tgt := 53) X.1 X.2.1 dX6_isValue_26 (by decide) (fun h26 => absurd (by decide) h26) (fun h26 => ?_)
        refine lv_iload_n X.1 X.2.1 dX6_isValue_29 rfl (lv_at hl 0 rfl) ?_
        refine lv_iconst (v := 2) X.1 X.2.1 dX6_isValue_30 (by decide) ?_
        refine lv_icmp_ne (tgt := 44) X.1 X.2.1 dX6_isValue_31 (by decide) (fun h31 => ?_) (fun h31 => absurd (h16.symm.trans h31) (by decide))
        refine lv_iload_n X.1 X.2.1 dX6_isValue_44 rfl (lv_at hl 0 rfl) ?_
        refine lv_iconst (v := 3) X.1 X.2.1 dX6_isValue_45 (by decide) ?_
        refine lv_icmp_ne (tgt := 57) X.1 X.2.1 dX6_isValue_46 (by decide) (fun h46 => ?_) (fun h46 => absurd (h16.symm.trans h46) (by decide))
        refine lv_iconst (v := 0) X.1 X.2.1 dX6_isValue_57 (by decide) ?_
        exact qZ ⟨by simp [isVal, bI, h1, h16, h31, h46, hb23], rfl⟩ X hM hS hret hlk (by decide) dX6_isValue_58
  · refine lv_iload_n X.1 X.2.1 dX6_isValue_4 rfl (lv_at hl 1 rfl) ?_
    refine lv_iconst (v := 1) X.1 X.2.1 dX6_isValue_5 (by decide) ?_
    refine lv_bipush (v := 100) X.1 X.2.1 dX6_isValue_6 (by decide) ?_
    refine kMS (As := [_, _, _]) X hM hS hl.1 c_X6_isIn kl_X6_48 mf_X6_isIn ⟨Nat.le_of_ble_eq_true rfl, Nat.le_of_ble_eq_true rfl⟩ ⟨Nat.zero_le _, Nat.zero_le _⟩ rfl (Nat.le_of_ble_eq_true rfl) dX6_isValue_8 (fun r8 o8 H locs hp8 hM hS => ?_)
    obtain ⟨e8, g8⟩ := hp8
    replace g8 := g8.symm
    subst g8
    rcases bI_cases e8 with ⟨hb8, rfl⟩ | ⟨hb8, rfl⟩
    · refine lv_if_ne (tgt := 53) X.1 X.2.1 dX6_isValue_11 (by decide) (fun h11 => ?_) (fun h11 => absurd h11 (by decide))
      refine lv_iconst (v := 1) X.1 X.2.1 dX6_isValue_53 (by decide) ?_
      refine lv_goto (tgt := 58) X.1 X.2.1 dX6_isValue_54 (by decide) ?_
      exact qZ ⟨by simp [isVal, bI, h1, hb8], rfl⟩ X hM hS hret hlk (by decide) dX6_isValue_58
    · refine lv_if_ne (tgt := 53) X.1 X.2.1 dX6_isValue_11 (by decide) (fun h11 => absurd (by decide) h11) (fun h11 => ?_)
      refine lv_iload_n X.1 X.2.1 dX6_isValue_14 rfl (lv_at hl 0 rfl) ?_
      refine lv_iconst (v := 1) X.1 X.2.1 dX6_isValue_15 (by decide) ?_
      refine lv_icmp_ne (tgt := 29) X.1 X.2.1 dX6_isValue_16 (by decide) (fun h16 => ?_) (fun h16 => absurd (h1.symm.trans h16) (by decide))
      refine lv_iload_n X.1 X.2.1 dX6_isValue_29 rfl (lv_at hl 0 rfl) ?_
      refine lv_iconst (v := 2) X.1 X.2.1 dX6_isValue_30 (by decide) ?_
      refine lv_icmp_ne (tgt := 44) X.1 X.2.1 dX6_isValue_31 (by decide) (fun h31 => ?_) (fun h31 => absurd (h1.symm.trans h31) (by decide))
      refine lv_iload_n X.1 X.2.1 dX6_isValue_44 rfl (lv_at hl 0 rfl) ?_
      refine lv_iconst (v := 3) X.1 X.2.1 dX6_isValue_45 (by decide) ?_
      refine lv_icmp_ne (tgt := 57) X.1 X.2.1 dX6_isValue_46 (by decide) (fun h46 => ?_) (fun h46 => absurd (h1.symm.trans h46) (by decide))
      refine lv_iconst (v := 0) X.1 X.2.1 dX6_isValue_57 (by decide) ?_
      exact qZ ⟨by simp [isVal, bI, h1, h16, h31, h46, hb8], rfl⟩ X hM hS hret hlk (by decide) dX6_isValue_58

set_option maxHeartbeats 4000000 in
set_option maxRecDepth 100000 in
theorem c_X6_lay {l : Launch} {J : mG} {t a : Int32} : mMet l yX6_lay cX6_lay 4 none 0 0 0 J [.ref (ja J 0), .int a] (oF t) (fun sz => mQv J sz (fun o1 => o1 = oF t)) := by
  refine mMet_of (by decide +kernel) (Nat.le_of_ble_eq_true rfl) ?_
  intro p e s m args below meth c ls X hM hret hlk hl
  have hS : mS J s.heap s.heap [] := va_S.rf
  refine lv_aload_n X.1 X.2.1 dX6_lay_0 rfl (lv_at hl 0 rfl) ?_
  refine lv_iconst (v := 0) X.1 X.2.1 dX6_lay_1 (by decide) ?_
  refine q_put X hM hS 13 (by decide) kl_X6_113 rfl rfl (by decide +kernel) rfl dX6_lay_2 (fun H locs hM hS => ?_)
  rw [oF_13] at hM
  refine lv_iconst (v := 0) X.1 X.2.1 dX6_lay_5 (by decide) ?_
  refine lv_istore_n X.1 X.2.1 dX6_lay_6 rfl hl (by decide) rfl (fun ls hl => ?_)
  replace hl : lv_has ls 4 [(2, _), (0, _), (1, _)] := hl
  refine lv_iload_n X.1 X.2.1 dX6_lay_7 rfl (lv_at hl 0 rfl) ?_
  refine lv_aload_n X.1 X.2.1 dX6_lay_8 rfl (lv_at hl 1 rfl) ?_
  refine q_get (v := .int 0) X hM 1 (by decide) kl_X6_45 rfl rfl dX6_lay_9 ?_
  refine lv_icmp_ge (tgt := 84) X.1 X.2.1 dX6_lay_12 (by decide) (fun h12 => ?_) (fun h12 => absurd (by decide) h12)
  exact qV (o' := oF t) rfl X hM hS hret hlk dX6_lay_84

set_option maxHeartbeats 4000000 in
set_option maxRecDepth 100000 in
theorem c_X6_goodsOf {l : Launch} {J : mG} {t a b : Int32} : mMet l yX6_goodsOf cX6_goodsOf 5 (some .int) 1 0 0 J [.ref (ja J 0), .int a, .int b] (oF t) (fun sz => mQi J sz (fun x o1 => x = 0 ∧ o1 = oF t)) := by
  refine mMet_of (by decide +kernel) (Nat.le_of_ble_eq_true rfl) ?_
  intro p e s m args below meth c ls X hM hret hlk hl
  have hS : mS J s.heap s.heap [] := va_S.rf
  refine lv_aload_n X.1 X.2.1 dX6_goodsOf_0 rfl (lv_at hl 0 rfl) ?_
  refine lv_iload_n X.1 X.2.1 dX6_goodsOf_1 rfl (lv_at hl 1 rfl) ?_
  refine kMV (As := [_]) X hM hS hl.1 c_X6_lay rfl kl_X6_120 mf_X6_lay ⟨Nat.le_of_ble_eq_true rfl, Nat.le_of_ble_eq_true rfl⟩ ⟨Nat.zero_le _, Nat.zero_le _⟩ rfl (Nat.le_of_ble_eq_true rfl) dX6_goodsOf_2 (fun o2 H locs hp2 hM hS => ?_)
  subst hp2
  refine lv_iconst (v := 0) X.1 X.2.1 dX6_goodsOf_5 (by decide) ?_
  refine lv_istore_n X.1 X.2.1 dX6_goodsOf_6 rfl hl (by decide) rfl (fun ls hl => ?_)
  replace hl : lv_has ls 5 [(3, _), (0, _), (1, _), (2, _)] := hl
  refine lv_iload_n X.1 X.2.1 dX6_goodsOf_7 rfl (lv_at hl 0 rfl) ?_
  refine lv_aload_n X.1 X.2.1 dX6_goodsOf_8 rfl (lv_at hl 1 rfl) ?_
  refine q_get (v := .int 0) X hM 7 (by decide) kl_X6_52 rfl rfl dX6_goodsOf_9 ?_
  refine lv_icmp_ge (tgt := 104) X.1 X.2.1 dX6_goodsOf_12 (by decide) (fun h12 => ?_) (fun h12 => absurd (by decide) h12)
  refine lv_iconst (v := 0) X.1 X.2.1 dX6_goodsOf_104 (by decide) ?_
  refine lv_istore_n X.1 X.2.1 dX6_goodsOf_105 rfl hl (by decide) rfl (fun ls hl => ?_)
  replace hl : lv_has ls 5 [(3, _), (0, _), (1, _), (2, _)] := hl
  refine lv_iconst (v := 0) X.1 X.2.1 dX6_goodsOf_106 (by decide) ?_
  refine lv_istore X.1 X.2.1 dX6_goodsOf_107 hl (by decide) rfl (fun ls hl => ?_)
  replace hl : lv_has ls 5 [(4, _), (3, _), (0, _), (1, _), (2, _)] := hl
  refine lv_iload X.1 X.2.1 dX6_goodsOf_109 (lv_at hl 0 rfl) ?_
  refine lv_aload_n X.1 X.2.1 dX6_goodsOf_111 rfl (lv_at hl 2 rfl) ?_
  refine q_get (v := .int 0) X hM 13 (by decide) kl_X6_113 rfl rfl dX6_goodsOf_112 ?_
  refine lv_icmp_ge (tgt := 134) X.1 X.2.1 dX6_goodsOf_115 (by decide) (fun h115 => ?_) (fun h115 => absurd (by decide) h115)
  refine lv_iload_n X.1 X.2.1 dX6_goodsOf_134 rfl (lv_at hl 1 rfl) ?_
  exact qI ⟨rfl, rfl⟩ X hM hS hret hlk dX6_goodsOf_135

set_option maxHeartbeats 4000000 in
set_option maxRecDepth 100000 in
theorem c_X6_feeFor {l : Launch} {J : mG} {t a : Int32} : mMet l yX6_feeFor cX6_feeFor 5 (some .int) 1 0 0 J [.ref (ja J 0), .int a, .int 0] (oF t) (fun sz => mQi J sz (fun x o1 => x = 0 ∧ o1 = oF t)) := by
  refine mMet_of (by decide +kernel) (Nat.le_of_ble_eq_true rfl) ?_
  intro p e s m args below meth c ls X hM hret hlk hl
  have hS : mS J s.heap s.heap [] := va_S.rf
  refine lv_iload_n X.1 X.2.1 dX6_feeFor_0 rfl (lv_at hl 2 rfl) ?_
  refine lv_aload_n X.1 X.2.1 dX6_feeFor_1 rfl (lv_at hl 0 rfl) ?_
  refine q_get (v := .int 1000000) X hM 6 (by decide) kl_X6_20 rfl rfl dX6_feeFor_2 ?_
  refine lv_icmp_ge (tgt := 16) X.1 X.2.1 dX6_feeFor_5 (by decide) (fun h5 => absurd h5 (by decide)) (fun h5 => ?_)
  refine lv_aload_n X.1 X.2.1 dX6_feeFor_8 rfl (lv_at hl 0 rfl) ?_
  refine lv_iconst (v := 0) X.1 X.2.1 dX6_feeFor_9 (by decide) ?_
  refine kMI (As := [_]) X hM hS hl.1 c_X6_sizeOf rfl kl_X6_134 mf_X6_sizeOf ⟨Nat.le_of_ble_eq_true rfl, Nat.le_of_ble_eq_true rfl⟩ ⟨Nat.zero_le _, Nat.zero_le _⟩ rfl (Nat.le_of_ble_eq_true rfl) dX6_feeFor_10 (fun r10 o10 H locs hp10 hM hS => ?_)
  obtain ⟨rfl, rfl⟩ := hp10
  refine lv_if_ne (tgt := 20) X.1 X.2.1 dX6_feeFor_13 (by decide) (fun h13 => absurd (by decide) h13) (fun h13 => ?_)
  refine lv_iconst (v := 1) X.1 X.2.1 dX6_feeFor_16 (by decide) ?_
  refine lv_goto (tgt := 21) X.1 X.2.1 dX6_feeFor_17 (by decide) ?_
  refine lv_istore_n X.1 X.2.1 dX6_feeFor_21 rfl hl (by decide) rfl (fun ls hl => ?_)
  replace hl : lv_has ls 5 [(3, _), (0, _), (1, _), (2, _)] := hl
  refine lv_iconst (v := 0) X.1 X.2.1 dX6_feeFor_22 (by decide) ?_
  refine lv_istore X.1 X.2.1 dX6_feeFor_23 hl (by decide) rfl (fun ls hl => ?_)
  replace hl : lv_has ls 5 [(4, _), (3, _), (0, _), (1, _), (2, _)] := hl
  refine lv_iload X.1 X.2.1 dX6_feeFor_25 (lv_at hl 0 rfl) ?_
  refine lv_aload_n X.1 X.2.1 dX6_feeFor_27 rfl (lv_at hl 2 rfl) ?_
  refine q_get (v := .int 0) X hM 7 (by decide) kl_X6_52 rfl rfl dX6_feeFor_28 ?_
  refine lv_icmp_ge (tgt := 73) X.1 X.2.1 dX6_feeFor_31 (by decide) (fun h31 => ?_) (fun h31 => absurd (by decide) h31)
  refine lv_iload_n X.1 X.2.1 dX6_feeFor_73 rfl (lv_at hl 1 rfl) ?_
  refine lv_if_eq (tgt := 81) X.1 X.2.1 dX6_feeFor_74 (by decide) (fun h74 => absurd h74 (by decide)) (fun h74 => ?_)
  refine lv_iconst (v := 0) X.1 X.2.1 dX6_feeFor_77 (by decide) ?_
  refine lv_goto (tgt := 85) X.1 X.2.1 dX6_feeFor_78 (by decide) ?_
  exact qI ⟨rfl, rfl⟩ X hM hS hret hlk dX6_feeFor_85

set_option maxHeartbeats 4000000 in
set_option maxRecDepth 100000 in
theorem c_X6_totalOf {l : Launch} {J : mG} {t a : Int32} : mMet l yX6_totalOf cX6_totalOf 3 (some .int) 2 0 0 J [.ref (ja J 0), .int a] (oF t) (fun sz => mQi J sz (fun x o1 => x = 0 ∧ o1 = oF t)) := by
  refine mMet_of (by decide +kernel) (Nat.le_of_ble_eq_true rfl) ?_
  intro p e s m args below meth c ls X hM hret hlk hl
  have hS : mS J s.heap s.heap [] := va_S.rf
  refine lv_aload_n X.1 X.2.1 dX6_totalOf_0 rfl (lv_at hl 0 rfl) ?_
  refine lv_iconst (v := 0) X.1 X.2.1 dX6_totalOf_1 (by decide) ?_
  refine lv_iload_n X.1 X.2.1 dX6_totalOf_2 rfl (lv_at hl 1 rfl) ?_
  refine kMI (As := [_, _]) X hM hS hl.1 c_X6_goodsOf rfl kl_X6_137 mf_X6_goodsOf ⟨Nat.le_of_ble_eq_true rfl, Nat.le_of_ble_eq_true rfl⟩ ⟨Nat.zero_le _, Nat.zero_le _⟩ rfl (Nat.le_of_ble_eq_true rfl) dX6_totalOf_3 (fun r3 o3 H locs hp3 hM hS => ?_)
  obtain ⟨rfl, rfl⟩ := hp3
  refine lv_istore_n X.1 X.2.1 dX6_totalOf_6 rfl hl (by decide) rfl (fun ls hl => ?_)
  replace hl : lv_has ls 3 [(2, _), (0, _), (1, _)] := hl
  refine lv_iload_n X.1 X.2.1 dX6_totalOf_7 rfl (lv_at hl 0 rfl) ?_
  refine lv_aload_n X.1 X.2.1 dX6_totalOf_8 rfl (lv_at hl 1 rfl) ?_
  refine lv_iload_n X.1 X.2.1 dX6_totalOf_9 rfl (lv_at hl 2 rfl) ?_
  refine lv_iload_n X.1 X.2.1 dX6_totalOf_10 rfl (lv_at hl 0 rfl) ?_
  refine kMI (As := [_, _]) X hM hS hl.1 c_X6_feeFor rfl kl_X6_140 mf_X6_feeFor ⟨Nat.le_of_ble_eq_true rfl, Nat.le_of_ble_eq_true rfl⟩ ⟨Nat.zero_le _, Nat.zero_le _⟩ rfl (Nat.le_of_ble_eq_true rfl) dX6_totalOf_11 (fun r11 o11 H locs hp11 hM hS => ?_)
  obtain ⟨rfl, rfl⟩ := hp11
  refine lv_iadd X.1 X.2.1 dX6_totalOf_14 ?_
  refine r_as (b := 0) (by decide) ?_
  exact qI ⟨rfl, rfl⟩ X hM hS hret hlk dX6_totalOf_15

set_option maxHeartbeats 4000000 in
set_option maxRecDepth 100000 in
theorem c_X6_bestSet {l : Launch} {J : mG} {t : Int32} : mMet l yX6_bestSet cX6_bestSet 5 (some .int) 3 0 0 J [.ref (ja J 0)] (oF t) (fun sz => mQi J sz (fun x o1 => x = 0 ∧ o1 = oF t)) := by
  refine mMet_of (by decide +kernel) (Nat.le_of_ble_eq_true rfl) ?_
  intro p e s m args below meth c ls X hM hret hlk hl
  have hS : mS J s.heap s.heap [] := va_S.rf
  refine lv_iconst (v := 0) X.1 X.2.1 dX6_bestSet_0 (by decide) ?_
  refine lv_istore_n X.1 X.2.1 dX6_bestSet_1 rfl hl (by decide) rfl (fun ls hl => ?_)
  replace hl : lv_has ls 5 [(1, _), (0, _)] := hl
  refine lv_aload_n X.1 X.2.1 dX6_bestSet_2 rfl (lv_at hl 1 rfl) ?_
  refine lv_iconst (v := 0) X.1 X.2.1 dX6_bestSet_3 (by decide) ?_
  refine kMI (As := [_]) X hM hS hl.1 c_X6_totalOf rfl kl_X6_143 mf_X6_totalOf ⟨Nat.le_of_ble_eq_true rfl, Nat.le_of_ble_eq_true rfl⟩ ⟨Nat.zero_le _, Nat.zero_le _⟩ rfl (Nat.le_of_ble_eq_true rfl) dX6_bestSet_4 (fun r4 o4 H locs hp4 hM hS => ?_)
  obtain ⟨rfl, rfl⟩ := hp4
  refine lv_istore_n X.1 X.2.1 dX6_bestSet_7 rfl hl (by decide) rfl (fun ls hl => ?_)
  replace hl : lv_has ls 5 [(2, _), (1, _), (0, _)] := hl
  refine lv_iconst (v := 1) X.1 X.2.1 dX6_bestSet_8 (by decide) ?_
  refine lv_istore_n X.1 X.2.1 dX6_bestSet_9 rfl hl (by decide) rfl (fun ls hl => ?_)
  replace hl : lv_has ls 5 [(3, _), (2, _), (1, _), (0, _)] := hl
  refine lv_iload_n X.1 X.2.1 dX6_bestSet_10 rfl (lv_at hl 0 rfl) ?_
  refine lv_iconst (v := 1) X.1 X.2.1 dX6_bestSet_11 (by decide) ?_
  refine lv_aload_n X.1 X.2.1 dX6_bestSet_12 rfl (lv_at hl 3 rfl) ?_
  refine q_get (v := .int 0) X hM 7 (by decide) kl_X6_52 rfl rfl dX6_bestSet_13 ?_
  refine lv_ishl X.1 X.2.1 dX6_bestSet_16 ?_
  refine r_as (b := 1) (by decide) ?_
  refine lv_icmp_ge (tgt := 75) X.1 X.2.1 dX6_bestSet_17 (by decide) (fun h17 => ?_) (fun h17 => absurd (by decide) h17)
  refine lv_iload_n X.1 X.2.1 dX6_bestSet_75 rfl (lv_at hl 2 rfl) ?_
  exact qI ⟨rfl, rfl⟩ X hM hS hret hlk dX6_bestSet_76

set_option maxHeartbeats 4000000 in
set_option maxRecDepth 100000 in
theorem c_X6_setPrice {l : Launch} {J : mG} {t a b : Int32} : mMet l yX6_setPrice cX6_setPrice 4 (some .int) 2 0 0 J [.ref (ja J 0), .int a, .int b] (oF t) (fun sz => mQi J sz (mSpec (1) 0)) := by
  refine mMet_of (by decide +kernel) (Nat.le_of_ble_eq_true rfl) ?_
  intro p e s m args below meth c ls X hM hret hlk hl
  have hS : mS J s.heap s.heap [] := va_S.rf
  refine lv_aload_n X.1 X.2.1 dX6_setPrice_0 rfl (lv_at hl 0 rfl) ?_
  refine lv_iconst (v := 0) X.1 X.2.1 dX6_setPrice_1 (by decide) ?_
  refine q_put X hM hS 0 (by decide) kl_X6_42 rfl rfl (by decide +kernel) rfl dX6_setPrice_2 (fun H locs hM hS => ?_)
  rw [oF_0] at hM
  refine lv_aload_n X.1 X.2.1 dX6_setPrice_5 rfl (lv_at hl 0 rfl) ?_
  refine lv_iload_n X.1 X.2.1 dX6_setPrice_6 rfl (lv_at hl 1 rfl) ?_
  refine kMI (As := [_]) X hM hS hl.1 c_X6_isArticle rfl kl_X6_62 mf_X6_isArticle ⟨Nat.le_of_ble_eq_true rfl, Nat.le_of_ble_eq_true rfl⟩ ⟨Nat.zero_le _, Nat.zero_le _⟩ rfl (Nat.le_of_ble_eq_true rfl) dX6_setPrice_7 (fun r7 o7 H locs hp7 hM hS => ?_)
  obtain ⟨rfl, rfl⟩ := hp7
  refine lv_if_ne (tgt := 19) X.1 X.2.1 dX6_setPrice_10 (by decide) (fun h10 => absurd (by decide) h10) (fun h10 => ?_)
  refine lv_aload_n X.1 X.2.1 dX6_setPrice_13 rfl (lv_at hl 0 rfl) ?_
  refine lv_iconst (v := 1) X.1 X.2.1 dX6_setPrice_14 (by decide) ?_
  refine kMI (As := [_]) X hM hS hl.1 c_X6_fail rfl kl_X6_58 mf_X6_fail ⟨Nat.le_of_ble_eq_true rfl, Nat.le_of_ble_eq_true rfl⟩ ⟨Nat.zero_le _, Nat.zero_le _⟩ rfl (Nat.le_of_ble_eq_true rfl) dX6_setPrice_15 (fun r15 o15 H locs hp15 hM hS => ?_)
  obtain ⟨rfl, rfl⟩ := hp15
  exact qI (mSpec_n (show 1 = (1 : Int32) from rfl) (by decide) rfl) X hM hS hret hlk dX6_setPrice_18

set_option maxHeartbeats 4000000 in
set_option maxRecDepth 100000 in
theorem c_X6_put {l : Launch} {J : mG} {t a b : Int32} : mMet l yX6_put cX6_put 4 (some .int) 2 0 0 J [.ref (ja J 0), .int a, .int b] (oF t) (fun sz => mQi J sz (mSpec (1) 0)) := by
  refine mMet_of (by decide +kernel) (Nat.le_of_ble_eq_true rfl) ?_
  intro p e s m args below meth c ls X hM hret hlk hl
  have hS : mS J s.heap s.heap [] := va_S.rf
  refine lv_aload_n X.1 X.2.1 dX6_put_0 rfl (lv_at hl 0 rfl) ?_
  refine lv_iconst (v := 0) X.1 X.2.1 dX6_put_1 (by decide) ?_
  refine q_put X hM hS 0 (by decide) kl_X6_42 rfl rfl (by decide +kernel) rfl dX6_put_2 (fun H locs hM hS => ?_)
  rw [oF_0] at hM
  refine lv_aload_n X.1 X.2.1 dX6_put_5 rfl (lv_at hl 0 rfl) ?_
  refine lv_iload_n X.1 X.2.1 dX6_put_6 rfl (lv_at hl 1 rfl) ?_
  refine kMI (As := [_]) X hM hS hl.1 c_X6_isArticle rfl kl_X6_62 mf_X6_isArticle ⟨Nat.le_of_ble_eq_true rfl, Nat.le_of_ble_eq_true rfl⟩ ⟨Nat.zero_le _, Nat.zero_le _⟩ rfl (Nat.le_of_ble_eq_true rfl) dX6_put_7 (fun r7 o7 H locs hp7 hM hS => ?_)
  obtain ⟨rfl, rfl⟩ := hp7
  refine lv_if_ne (tgt := 19) X.1 X.2.1 dX6_put_10 (by decide) (fun h10 => absurd (by decide) h10) (fun h10 => ?_)
  refine lv_aload_n X.1 X.2.1 dX6_put_13 rfl (lv_at hl 0 rfl) ?_
  refine lv_iconst (v := 1) X.1 X.2.1 dX6_put_14 (by decide) ?_
  refine kMI (As := [_]) X hM hS hl.1 c_X6_fail rfl kl_X6_58 mf_X6_fail ⟨Nat.le_of_ble_eq_true rfl, Nat.le_of_ble_eq_true rfl⟩ ⟨Nat.zero_le _, Nat.zero_le _⟩ rfl (Nat.le_of_ble_eq_true rfl) dX6_put_15 (fun r15 o15 H locs hp15 hM hS => ?_)
  obtain ⟨rfl, rfl⟩ := hp15
  exact qI (mSpec_n (show 1 = (1 : Int32) from rfl) (by decide) rfl) X hM hS hret hlk dX6_put_18

set_option maxHeartbeats 4000000 in
set_option maxRecDepth 100000 in
theorem c_X6_setUses {l : Launch} {J : mG} {t a b : Int32} : mMet l yX6_setUses cX6_setUses 4 (some .int) 2 0 0 J [.ref (ja J 0), .int a, .int b] (oF t) (fun sz => mQi J sz (mSpec (1) 0)) := by
  refine mMet_of (by decide +kernel) (Nat.le_of_ble_eq_true rfl) ?_
  intro p e s m args below meth c ls X hM hret hlk hl
  have hS : mS J s.heap s.heap [] := va_S.rf
  refine lv_aload_n X.1 X.2.1 dX6_setUses_0 rfl (lv_at hl 0 rfl) ?_
  refine lv_iconst (v := 0) X.1 X.2.1 dX6_setUses_1 (by decide) ?_
  refine q_put X hM hS 0 (by decide) kl_X6_42 rfl rfl (by decide +kernel) rfl dX6_setUses_2 (fun H locs hM hS => ?_)
  rw [oF_0] at hM
  refine lv_aload_n X.1 X.2.1 dX6_setUses_5 rfl (lv_at hl 0 rfl) ?_
  refine lv_iload_n X.1 X.2.1 dX6_setUses_6 rfl (lv_at hl 1 rfl) ?_
  refine kMI (As := [_]) X hM hS hl.1 c_X6_isCoupon rfl kl_X6_83 mf_X6_isCoupon ⟨Nat.le_of_ble_eq_true rfl, Nat.le_of_ble_eq_true rfl⟩ ⟨Nat.zero_le _, Nat.zero_le _⟩ rfl (Nat.le_of_ble_eq_true rfl) dX6_setUses_7 (fun r7 o7 H locs hp7 hM hS => ?_)
  obtain ⟨rfl, rfl⟩ := hp7
  refine lv_if_ne (tgt := 19) X.1 X.2.1 dX6_setUses_10 (by decide) (fun h10 => absurd (by decide) h10) (fun h10 => ?_)
  refine lv_aload_n X.1 X.2.1 dX6_setUses_13 rfl (lv_at hl 0 rfl) ?_
  refine lv_iconst (v := 1) X.1 X.2.1 dX6_setUses_14 (by decide) ?_
  refine kMI (As := [_]) X hM hS hl.1 c_X6_fail rfl kl_X6_58 mf_X6_fail ⟨Nat.le_of_ble_eq_true rfl, Nat.le_of_ble_eq_true rfl⟩ ⟨Nat.zero_le _, Nat.zero_le _⟩ rfl (Nat.le_of_ble_eq_true rfl) dX6_setUses_15 (fun r15 o15 H locs hp15 hM hS => ?_)
  obtain ⟨rfl, rfl⟩ := hp15
  exact qI (mSpec_n (show 1 = (1 : Int32) from rfl) (by decide) rfl) X hM hS hret hlk dX6_setUses_18

set_option maxHeartbeats 4000000 in
set_option maxRecDepth 100000 in
theorem c_X6_matching {l : Launch} {J : mG} {t a : Int32} : mMet l yX6_matching cX6_matching 2 (some .int) 2 0 0 J [.ref (ja J 0), .int a] (oF t) (fun sz => mQi J sz (mSpec (1) 0)) := by
  refine mMet_of (by decide +kernel) (Nat.le_of_ble_eq_true rfl) ?_
  intro p e s m args below meth c ls X hM hret hlk hl
  have hS : mS J s.heap s.heap [] := va_S.rf
  refine lv_aload_n X.1 X.2.1 dX6_matching_0 rfl (lv_at hl 0 rfl) ?_
  refine lv_iconst (v := 0) X.1 X.2.1 dX6_matching_1 (by decide) ?_
  refine q_put X hM hS 0 (by decide) kl_X6_42 rfl rfl (by decide +kernel) rfl dX6_matching_2 (fun H locs hM hS => ?_)
  rw [oF_0] at hM
  refine lv_aload_n X.1 X.2.1 dX6_matching_5 rfl (lv_at hl 0 rfl) ?_
  refine lv_iload_n X.1 X.2.1 dX6_matching_6 rfl (lv_at hl 1 rfl) ?_
  refine kMI (As := [_]) X hM hS hl.1 c_X6_isCoupon rfl kl_X6_83 mf_X6_isCoupon ⟨Nat.le_of_ble_eq_true rfl, Nat.le_of_ble_eq_true rfl⟩ ⟨Nat.zero_le _, Nat.zero_le _⟩ rfl (Nat.le_of_ble_eq_true rfl) dX6_matching_7 (fun r7 o7 H locs hp7 hM hS => ?_)
  obtain ⟨rfl, rfl⟩ := hp7
  refine lv_if_eq (tgt := 22) X.1 X.2.1 dX6_matching_10 (by decide) (fun h10 => ?_) (fun h10 => absurd (by decide) h10)
  refine lv_aload_n X.1 X.2.1 dX6_matching_22 rfl (lv_at hl 0 rfl) ?_
  refine lv_iconst (v := 1) X.1 X.2.1 dX6_matching_23 (by decide) ?_
  refine kMI (As := [_]) X hM hS hl.1 c_X6_fail rfl kl_X6_58 mf_X6_fail ⟨Nat.le_of_ble_eq_true rfl, Nat.le_of_ble_eq_true rfl⟩ ⟨Nat.zero_le _, Nat.zero_le _⟩ rfl (Nat.le_of_ble_eq_true rfl) dX6_matching_24 (fun r24 o24 H locs hp24 hM hS => ?_)
  obtain ⟨rfl, rfl⟩ := hp24
  exact qI (mSpec_n (show 1 = (1 : Int32) from rfl) (by decide) rfl) X hM hS hret hlk dX6_matching_27

set_option maxHeartbeats 4000000 in
set_option maxRecDepth 100000 in
theorem c_X6_fits {l : Launch} {J : mG} {t a : Int32} : mMet l yX6_fits cX6_fits 2 (some .boolean) 2 0 0 J [.ref (ja J 0), .int a] (oF t) (fun sz => mQi J sz (mSpec (1) 0)) := by
  refine mMet_of (by decide +kernel) (Nat.le_of_ble_eq_true rfl) ?_
  intro p e s m args below meth c ls X hM hret hlk hl
  have hS : mS J s.heap s.heap [] := va_S.rf
  refine lv_aload_n X.1 X.2.1 dX6_fits_0 rfl (lv_at hl 0 rfl) ?_
  refine lv_aload_n X.1 X.2.1 dX6_fits_1 rfl (lv_at hl 0 rfl) ?_
  refine lv_iload_n X.1 X.2.1 dX6_fits_2 rfl (lv_at hl 1 rfl) ?_
  refine kMI (As := [_]) X hM hS hl.1 c_X6_isCoupon rfl kl_X6_83 mf_X6_isCoupon ⟨Nat.le_of_ble_eq_true rfl, Nat.le_of_ble_eq_true rfl⟩ ⟨Nat.zero_le _, Nat.zero_le _⟩ rfl (Nat.le_of_ble_eq_true rfl) dX6_fits_3 (fun r3 o3 H locs hp3 hM hS => ?_)
  obtain ⟨rfl, rfl⟩ := hp3
  refine lv_if_eq (tgt := 13) X.1 X.2.1 dX6_fits_6 (by decide) (fun h6 => ?_) (fun h6 => absurd (by decide) h6)
  refine lv_iconst (v := 1) X.1 X.2.1 dX6_fits_13 (by decide) ?_
  refine q_put X hM hS 0 (by decide) kl_X6_42 rfl rfl (by decide +kernel) rfl dX6_fits_14 (fun H locs hM hS => ?_)
  rw [oF_0] at hM
  refine lv_aload_n X.1 X.2.1 dX6_fits_17 rfl (lv_at hl 0 rfl) ?_
  refine q_get (v := .int 1) X hM 0 (by decide) kl_X6_42 rfl rfl dX6_fits_18 ?_
  refine lv_if_ne (tgt := 36) X.1 X.2.1 dX6_fits_21 (by decide) (fun h21 => ?_) (fun h21 => absurd h21 (by decide))
  refine lv_iconst (v := 0) X.1 X.2.1 dX6_fits_36 (by decide) ?_
  exact qZ (mSpec_n (show 1 = (1 : Int32) from rfl) (by decide) rfl) X hM hS hret hlk (by decide) dX6_fits_37

set_option maxHeartbeats 4000000 in
set_option maxRecDepth 100000 in
theorem c_X6_missing {l : Launch} {J : mG} {t a : Int32} : mMet l yX6_missing cX6_missing 2 (some .int) 2 0 0 J [.ref (ja J 0), .int a] (oF t) (fun sz => mQi J sz (mSpec (1) 0)) := by
  refine mMet_of (by decide +kernel) (Nat.le_of_ble_eq_true rfl) ?_
  intro p e s m args below meth c ls X hM hret hlk hl
  have hS : mS J s.heap s.heap [] := va_S.rf
  refine lv_aload_n X.1 X.2.1 dX6_missing_0 rfl (lv_at hl 0 rfl) ?_
  refine lv_iconst (v := 0) X.1 X.2.1 dX6_missing_1 (by decide) ?_
  refine q_put X hM hS 0 (by decide) kl_X6_42 rfl rfl (by decide +kernel) rfl dX6_missing_2 (fun H locs hM hS => ?_)
  rw [oF_0] at hM
  refine lv_aload_n X.1 X.2.1 dX6_missing_5 rfl (lv_at hl 0 rfl) ?_
  refine lv_iload_n X.1 X.2.1 dX6_missing_6 rfl (lv_at hl 1 rfl) ?_
  refine kMI (As := [_]) X hM hS hl.1 c_X6_isCoupon rfl kl_X6_83 mf_X6_isCoupon ⟨Nat.le_of_ble_eq_true rfl, Nat.le_of_ble_eq_true rfl⟩ ⟨Nat.zero_le _, Nat.zero_le _⟩ rfl (Nat.le_of_ble_eq_true rfl) dX6_missing_7 (fun r7 o7 H locs hp7 hM hS => ?_)
  obtain ⟨rfl, rfl⟩ := hp7
  refine lv_if_eq (tgt := 38) X.1 X.2.1 dX6_missing_10 (by decide) (fun h10 => ?_) (fun h10 => absurd (by decide) h10)
  refine lv_aload_n X.1 X.2.1 dX6_missing_38 rfl (lv_at hl 0 rfl) ?_
  refine lv_iconst (v := 1) X.1 X.2.1 dX6_missing_39 (by decide) ?_
  refine kMI (As := [_]) X hM hS hl.1 c_X6_fail rfl kl_X6_58 mf_X6_fail ⟨Nat.le_of_ble_eq_true rfl, Nat.le_of_ble_eq_true rfl⟩ ⟨Nat.zero_le _, Nat.zero_le _⟩ rfl (Nat.le_of_ble_eq_true rfl) dX6_missing_40 (fun r40 o40 H locs hp40 hM hS => ?_)
  obtain ⟨rfl, rfl⟩ := hp40
  exact qI (mSpec_n (show 1 = (1 : Int32) from rfl) (by decide) rfl) X hM hS hret hlk dX6_missing_43

set_option maxHeartbeats 4000000 in
set_option maxRecDepth 100000 in
theorem c_X6_worth {l : Launch} {J : mG} {t a : Int32} : mMet l yX6_worth cX6_worth 5 (some .int) 2 0 0 J [.ref (ja J 0), .int a] (oF t) (fun sz => mQi J sz (mSpec (1) 0)) := by
  refine mMet_of (by decide +kernel) (Nat.le_of_ble_eq_true rfl) ?_
  intro p e s m args below meth c ls X hM hret hlk hl
  have hS : mS J s.heap s.heap [] := va_S.rf
  refine lv_aload_n X.1 X.2.1 dX6_worth_0 rfl (lv_at hl 0 rfl) ?_
  refine lv_iconst (v := 0) X.1 X.2.1 dX6_worth_1 (by decide) ?_
  refine q_put X hM hS 0 (by decide) kl_X6_42 rfl rfl (by decide +kernel) rfl dX6_worth_2 (fun H locs hM hS => ?_)
  rw [oF_0] at hM
  refine lv_aload_n X.1 X.2.1 dX6_worth_5 rfl (lv_at hl 0 rfl) ?_
  refine lv_iload_n X.1 X.2.1 dX6_worth_6 rfl (lv_at hl 1 rfl) ?_
  refine kMI (As := [_]) X hM hS hl.1 c_X6_isCoupon rfl kl_X6_83 mf_X6_isCoupon ⟨Nat.le_of_ble_eq_true rfl, Nat.le_of_ble_eq_true rfl⟩ ⟨Nat.zero_le _, Nat.zero_le _⟩ rfl (Nat.le_of_ble_eq_true rfl) dX6_worth_7 (fun r7 o7 H locs hp7 hM hS => ?_)
  obtain ⟨rfl, rfl⟩ := hp7
  refine lv_if_ne (tgt := 19) X.1 X.2.1 dX6_worth_10 (by decide) (fun h10 => absurd (by decide) h10) (fun h10 => ?_)
  refine lv_aload_n X.1 X.2.1 dX6_worth_13 rfl (lv_at hl 0 rfl) ?_
  refine lv_iconst (v := 1) X.1 X.2.1 dX6_worth_14 (by decide) ?_
  refine kMI (As := [_]) X hM hS hl.1 c_X6_fail rfl kl_X6_58 mf_X6_fail ⟨Nat.le_of_ble_eq_true rfl, Nat.le_of_ble_eq_true rfl⟩ ⟨Nat.zero_le _, Nat.zero_le _⟩ rfl (Nat.le_of_ble_eq_true rfl) dX6_worth_15 (fun r15 o15 H locs hp15 hM hS => ?_)
  obtain ⟨rfl, rfl⟩ := hp15
  exact qI (mSpec_n (show 1 = (1 : Int32) from rfl) (by decide) rfl) X hM hS hret hlk dX6_worth_18

set_option maxHeartbeats 4000000 in
set_option maxRecDepth 100000 in
theorem c_X6_giveBack {l : Launch} {J : mG} {t a b c1 : Int32} : mMet l yX6_giveBack cX6_giveBack 6 (some .int) 2 0 0 J [.ref (ja J 0), .int a, .int b, .int c1] (oF t) (fun sz => mQi J sz (mSpec (1) 0)) := by
  refine mMet_of (by decide +kernel) (Nat.le_of_ble_eq_true rfl) ?_
  intro p e s m args below meth c ls X hM hret hlk hl
  have hS : mS J s.heap s.heap [] := va_S.rf
  refine lv_aload_n X.1 X.2.1 dX6_giveBack_0 rfl (lv_at hl 0 rfl) ?_
  refine lv_iconst (v := 0) X.1 X.2.1 dX6_giveBack_1 (by decide) ?_
  refine q_put X hM hS 0 (by decide) kl_X6_42 rfl rfl (by decide +kernel) rfl dX6_giveBack_2 (fun H locs hM hS => ?_)
  rw [oF_0] at hM
  refine lv_aload_n X.1 X.2.1 dX6_giveBack_5 rfl (lv_at hl 0 rfl) ?_
  refine lv_iload_n X.1 X.2.1 dX6_giveBack_6 rfl (lv_at hl 1 rfl) ?_
  refine kMI (As := [_]) X hM hS hl.1 c_X6_isOrder rfl kl_X6_155 mf_X6_isOrder ⟨Nat.le_of_ble_eq_true rfl, Nat.le_of_ble_eq_true rfl⟩ ⟨Nat.zero_le _, Nat.zero_le _⟩ rfl (Nat.le_of_ble_eq_true rfl) dX6_giveBack_7 (fun r7 o7 H locs hp7 hM hS => ?_)
  obtain ⟨rfl, rfl⟩ := hp7
  refine lv_if_eq (tgt := 21) X.1 X.2.1 dX6_giveBack_10 (by decide) (fun h10 => ?_) (fun h10 => absurd (by decide) h10)
  refine lv_aload_n X.1 X.2.1 dX6_giveBack_21 rfl (lv_at hl 0 rfl) ?_
  refine lv_iconst (v := 1) X.1 X.2.1 dX6_giveBack_22 (by decide) ?_
  refine kMI (As := [_]) X hM hS hl.1 c_X6_fail rfl kl_X6_58 mf_X6_fail ⟨Nat.le_of_ble_eq_true rfl, Nat.le_of_ble_eq_true rfl⟩ ⟨Nat.zero_le _, Nat.zero_le _⟩ rfl (Nat.le_of_ble_eq_true rfl) dX6_giveBack_23 (fun r23 o23 H locs hp23 hM hS => ?_)
  obtain ⟨rfl, rfl⟩ := hp23
  exact qI (mSpec_n (show 1 = (1 : Int32) from rfl) (by decide) rfl) X hM hS hret hlk dX6_giveBack_26

set_option maxHeartbeats 4000000 in
set_option maxRecDepth 100000 in
theorem c_X6_order {l : Launch} {J : mG} {t a b : Int32} : mMet l yX6_order cX6_order 3 (some .int) 2 0 0 J [.ref (ja J 0), .int a, .int b] (oF t) (fun sz => mQi J sz (mSpec (1) 0)) := by
  refine mMet_of (by decide +kernel) (Nat.le_of_ble_eq_true rfl) ?_
  intro p e s m args below meth c ls X hM hret hlk hl
  have hS : mS J s.heap s.heap [] := va_S.rf
  refine lv_aload_n X.1 X.2.1 dX6_order_0 rfl (lv_at hl 0 rfl) ?_
  refine lv_iconst (v := 0) X.1 X.2.1 dX6_order_1 (by decide) ?_
  refine q_put X hM hS 0 (by decide) kl_X6_42 rfl rfl (by decide +kernel) rfl dX6_order_2 (fun H locs hM hS => ?_)
  rw [oF_0] at hM
  refine lv_aload_n X.1 X.2.1 dX6_order_5 rfl (lv_at hl 0 rfl) ?_
  refine lv_iload_n X.1 X.2.1 dX6_order_6 rfl (lv_at hl 1 rfl) ?_
  refine kMI (As := [_]) X hM hS hl.1 c_X6_isOrder rfl kl_X6_155 mf_X6_isOrder ⟨Nat.le_of_ble_eq_true rfl, Nat.le_of_ble_eq_true rfl⟩ ⟨Nat.zero_le _, Nat.zero_le _⟩ rfl (Nat.le_of_ble_eq_true rfl) dX6_order_7 (fun r7 o7 H locs hp7 hM hS => ?_)
  obtain ⟨rfl, rfl⟩ := hp7
  refine lv_if_eq (tgt := 31) X.1 X.2.1 dX6_order_10 (by decide) (fun h10 => ?_) (fun h10 => absurd (by decide) h10)
  refine lv_aload_n X.1 X.2.1 dX6_order_31 rfl (lv_at hl 0 rfl) ?_
  refine lv_iconst (v := 1) X.1 X.2.1 dX6_order_32 (by decide) ?_
  refine kMI (As := [_]) X hM hS hl.1 c_X6_fail rfl kl_X6_58 mf_X6_fail ⟨Nat.le_of_ble_eq_true rfl, Nat.le_of_ble_eq_true rfl⟩ ⟨Nat.zero_le _, Nat.zero_le _⟩ rfl (Nat.le_of_ble_eq_true rfl) dX6_order_33 (fun r33 o33 H locs hp33 hM hS => ?_)
  obtain ⟨rfl, rfl⟩ := hp33
  exact qI (mSpec_n (show 1 = (1 : Int32) from rfl) (by decide) rfl) X hM hS hret hlk dX6_order_36

set_option maxHeartbeats 4000000 in
set_option maxRecDepth 100000 in
theorem c_X6_pieces {l : Launch} {J : mG} {t a b : Int32} : mMet l yX6_pieces cX6_pieces 3 (some .int) 2 0 0 J [.ref (ja J 0), .int a, .int b] (oF t) (fun sz => mQi J sz (mSpec (1) 0)) := by
  refine mMet_of (by decide +kernel) (Nat.le_of_ble_eq_true rfl) ?_
  intro p e s m args below meth c ls X hM hret hlk hl
  have hS : mS J s.heap s.heap [] := va_S.rf
  refine lv_aload_n X.1 X.2.1 dX6_pieces_0 rfl (lv_at hl 0 rfl) ?_
  refine lv_iconst (v := 0) X.1 X.2.1 dX6_pieces_1 (by decide) ?_
  refine q_put X hM hS 0 (by decide) kl_X6_42 rfl rfl (by decide +kernel) rfl dX6_pieces_2 (fun H locs hM hS => ?_)
  rw [oF_0] at hM
  refine lv_aload_n X.1 X.2.1 dX6_pieces_5 rfl (lv_at hl 0 rfl) ?_
  refine lv_iload_n X.1 X.2.1 dX6_pieces_6 rfl (lv_at hl 1 rfl) ?_
  refine kMI (As := [_]) X hM hS hl.1 c_X6_isOrder rfl kl_X6_155 mf_X6_isOrder ⟨Nat.le_of_ble_eq_true rfl, Nat.le_of_ble_eq_true rfl⟩ ⟨Nat.zero_le _, Nat.zero_le _⟩ rfl (Nat.le_of_ble_eq_true rfl) dX6_pieces_7 (fun r7 o7 H locs hp7 hM hS => ?_)
  obtain ⟨rfl, rfl⟩ := hp7
  refine lv_if_eq (tgt := 37) X.1 X.2.1 dX6_pieces_10 (by decide) (fun h10 => ?_) (fun h10 => absurd (by decide) h10)
  refine lv_aload_n X.1 X.2.1 dX6_pieces_37 rfl (lv_at hl 0 rfl) ?_
  refine lv_iconst (v := 1) X.1 X.2.1 dX6_pieces_38 (by decide) ?_
  refine kMI (As := [_]) X hM hS hl.1 c_X6_fail rfl kl_X6_58 mf_X6_fail ⟨Nat.le_of_ble_eq_true rfl, Nat.le_of_ble_eq_true rfl⟩ ⟨Nat.zero_le _, Nat.zero_le _⟩ rfl (Nat.le_of_ble_eq_true rfl) dX6_pieces_39 (fun r39 o39 H locs hp39 hM hS => ?_)
  obtain ⟨rfl, rfl⟩ := hp39
  exact qI (mSpec_n (show 1 = (1 : Int32) from rfl) (by decide) rfl) X hM hS hret hlk dX6_pieces_42

set_option maxHeartbeats 4000000 in
set_option maxRecDepth 100000 in
theorem c_X6_value {l : Launch} {J : mG} {t : Int32} : mMet l yX6_value cX6_value 1 (some .int) 2 0 0 J [.ref (ja J 0)] (oF t) (fun sz => mQi J sz (mSpec (0) 0)) := by
  refine mMet_of (by decide +kernel) (Nat.le_of_ble_eq_true rfl) ?_
  intro p e s m args below meth c ls X hM hret hlk hl
  have hS : mS J s.heap s.heap [] := va_S.rf
  refine lv_aload_n X.1 X.2.1 dX6_value_0 rfl (lv_at hl 0 rfl) ?_
  refine lv_iconst (v := 0) X.1 X.2.1 dX6_value_1 (by decide) ?_
  refine q_put X hM hS 0 (by decide) kl_X6_42 rfl rfl (by decide +kernel) rfl dX6_value_2 (fun H locs hM hS => ?_)
  rw [oF_0] at hM
  refine lv_aload_n X.1 X.2.1 dX6_value_5 rfl (lv_at hl 0 rfl) ?_
  refine lv_iconst (v := 0) X.1 X.2.1 dX6_value_6 (by decide) ?_
  refine kMI (As := [_]) X hM hS hl.1 c_X6_valueOf rfl kl_X6_66 mf_X6_valueOf ⟨Nat.le_of_ble_eq_true rfl, Nat.le_of_ble_eq_true rfl⟩ ⟨Nat.zero_le _, Nat.zero_le _⟩ rfl (Nat.le_of_ble_eq_true rfl) dX6_value_7 (fun r7 o7 H locs hp7 hM hS => ?_)
  obtain ⟨rfl, rfl⟩ := hp7
  exact qI (mSpec_0 (show 0 = (0 : Int32) from rfl) rfl rfl) X hM hS hret hlk dX6_value_10

set_option maxHeartbeats 4000000 in
set_option maxRecDepth 100000 in
theorem c_X6_orderCount {l : Launch} {J : mG} {t : Int32} : mMet l yX6_orderCount cX6_orderCount 1 (some .int) 2 0 0 J [.ref (ja J 0)] (oF t) (fun sz => mQi J sz (mSpec (0) 0)) := by
  refine mMet_of (by decide +kernel) (Nat.le_of_ble_eq_true rfl) ?_
  intro p e s m args below meth c ls X hM hret hlk hl
  have hS : mS J s.heap s.heap [] := va_S.rf
  refine lv_aload_n X.1 X.2.1 dX6_orderCount_0 rfl (lv_at hl 0 rfl) ?_
  refine lv_iconst (v := 0) X.1 X.2.1 dX6_orderCount_1 (by decide) ?_
  refine q_put X hM hS 0 (by decide) kl_X6_42 rfl rfl (by decide +kernel) rfl dX6_orderCount_2 (fun H locs hM hS => ?_)
  rw [oF_0] at hM
  refine lv_aload_n X.1 X.2.1 dX6_orderCount_5 rfl (lv_at hl 0 rfl) ?_
  refine q_get (v := .int 0) X hM 9 (by decide) kl_X6_55 rfl rfl dX6_orderCount_6 ?_
  exact qI (mSpec_0 (show 0 = (0 : Int32) from rfl) rfl rfl) X hM hS hret hlk dX6_orderCount_9

set_option maxHeartbeats 4000000 in
set_option maxRecDepth 100000 in
theorem c_X6_best {l : Launch} {J : mG} {t : Int32} : mMet l yX6_best cX6_best 1 (some .int) 4 0 0 J [.ref (ja J 0)] (oF t) (fun sz => mQi J sz (mSpec (0) 0)) := by
  refine mMet_of (by decide +kernel) (Nat.le_of_ble_eq_true rfl) ?_
  intro p e s m args below meth c ls X hM hret hlk hl
  have hS : mS J s.heap s.heap [] := va_S.rf
  refine lv_aload_n X.1 X.2.1 dX6_best_0 rfl (lv_at hl 0 rfl) ?_
  refine lv_iconst (v := 0) X.1 X.2.1 dX6_best_1 (by decide) ?_
  refine q_put X hM hS 0 (by decide) kl_X6_42 rfl rfl (by decide +kernel) rfl dX6_best_2 (fun H locs hM hS => ?_)
  rw [oF_0] at hM
  refine lv_aload_n X.1 X.2.1 dX6_best_5 rfl (lv_at hl 0 rfl) ?_
  refine kMI (As := []) X hM hS hl.1 c_X6_bestSet rfl kl_X6_151 mf_X6_bestSet ⟨Nat.le_of_ble_eq_true rfl, Nat.le_of_ble_eq_true rfl⟩ ⟨Nat.zero_le _, Nat.zero_le _⟩ rfl (Nat.le_of_ble_eq_true rfl) dX6_best_6 (fun r6 o6 H locs hp6 hM hS => ?_)
  obtain ⟨rfl, rfl⟩ := hp6
  exact qI (mSpec_0 (show 0 = (0 : Int32) from rfl) rfl rfl) X hM hS hret hlk dX6_best_9

set_option maxHeartbeats 4000000 in
set_option maxRecDepth 100000 in
theorem c_X6_isAllowed {l : Launch} {J : mG} {t a : Int32} : mMet l yX6_isAllowed cX6_isAllowed 2 (some .boolean) 2 0 0 J [.ref (ja J 0), .int a] (oF t) (fun sz => mQi J sz (mSpec (kSet a) 1)) := by
  refine mMet_of (by decide +kernel) (Nat.le_of_ble_eq_true rfl) ?_
  intro p e s m args below meth c ls X hM hret hlk hl
  have hS : mS J s.heap s.heap [] := va_S.rf
  refine lv_aload_n X.1 X.2.1 dX6_isAllowed_0 rfl (lv_at hl 0 rfl) ?_
  refine lv_aload_n X.1 X.2.1 dX6_isAllowed_1 rfl (lv_at hl 0 rfl) ?_
  refine lv_iload_n X.1 X.2.1 dX6_isAllowed_2 rfl (lv_at hl 1 rfl) ?_
  refine kMI (As := [_]) X hM hS hl.1 c_X6_areCoupons rfl kl_X6_107 mf_X6_areCoupons ⟨Nat.le_of_ble_eq_true rfl, Nat.le_of_ble_eq_true rfl⟩ ⟨Nat.zero_le _, Nat.zero_le _⟩ rfl (Nat.le_of_ble_eq_true rfl) dX6_isAllowed_3 (fun r3 o3 H locs hp3 hM hS => ?_)
  obtain ⟨e3, g3⟩ := hp3
  replace g3 := g3.symm
  subst g3
  rcases bI_cases e3 with ⟨hb3, rfl⟩ | ⟨hb3, rfl⟩
  · refine lv_if_eq (tgt := 13) X.1 X.2.1 dX6_isAllowed_6 (by decide) (fun h6 => absurd h6 (by decide)) (fun h6 => ?_)
    refine lv_iconst (v := 0) X.1 X.2.1 dX6_isAllowed_9 (by decide) ?_
    refine lv_goto (tgt := 14) X.1 X.2.1 dX6_isAllowed_10 (by decide) ?_
    refine q_put X hM hS 0 (by decide) kl_X6_42 rfl rfl (by decide +kernel) rfl dX6_isAllowed_14 (fun H locs hM hS => ?_)
    rw [oF_0] at hM
    refine lv_aload_n X.1 X.2.1 dX6_isAllowed_17 rfl (lv_at hl 0 rfl) ?_
    refine q_get (v := .int 0) X hM 0 (by decide) kl_X6_42 rfl rfl dX6_isAllowed_18 ?_
    refine lv_if_ne (tgt := 36) X.1 X.2.1 dX6_isAllowed_21 (by decide) (fun h21 => absurd (by decide) h21) (fun h21 => ?_)
    refine lv_aload_n X.1 X.2.1 dX6_isAllowed_24 rfl (lv_at hl 0 rfl) ?_
    refine lv_iload_n X.1 X.2.1 dX6_isAllowed_25 rfl (lv_at hl 1 rfl) ?_
    refine kMI (As := [_]) X hM hS hl.1 c_X6_isAllowedNow rfl kl_X6_110 mf_X6_isAllowedNow ⟨Nat.le_of_ble_eq_true rfl, Nat.le_of_ble_eq_true rfl⟩ ⟨Nat.zero_le _, Nat.zero_le _⟩ rfl (Nat.le_of_ble_eq_true rfl) dX6_isAllowed_26 (fun r26 o26 H locs hp26 hM hS => ?_)
    obtain ⟨rfl, rfl⟩ := hp26
    refine lv_if_eq (tgt := 36) X.1 X.2.1 dX6_isAllowed_29 (by decide) (fun h29 => absurd h29 (by decide)) (fun h29 => ?_)
    refine lv_iconst (v := 1) X.1 X.2.1 dX6_isAllowed_32 (by decide) ?_
    refine lv_goto (tgt := 37) X.1 X.2.1 dX6_isAllowed_33 (by decide) ?_
    exact qZ (mSpec_0 (show kSet a = (0 : Int32) from by simp [kSet, bI, hb3]) rfl rfl) X hM hS hret hlk (by decide) dX6_isAllowed_37
  · refine lv_if_eq (tgt := 13) X.1 X.2.1 dX6_isAllowed_6 (by decide) (fun h6 => ?_) (fun h6 => absurd (by decide) h6)
    refine lv_iconst (v := 1) X.1 X.2.1 dX6_isAllowed_13 (by decide) ?_
    refine q_put X hM hS 0 (by decide) kl_X6_42 rfl rfl (by decide +kernel) rfl dX6_isAllowed_14 (fun H locs hM hS => ?_)
    rw [oF_0] at hM
    refine lv_aload_n X.1 X.2.1 dX6_isAllowed_17 rfl (lv_at hl 0 rfl) ?_
    refine q_get (v := .int 1) X hM 0 (by decide) kl_X6_42 rfl rfl dX6_isAllowed_18 ?_
    refine lv_if_ne (tgt := 36) X.1 X.2.1 dX6_isAllowed_21 (by decide) (fun h21 => ?_) (fun h21 => absurd h21 (by decide))
    refine lv_iconst (v := 0) X.1 X.2.1 dX6_isAllowed_36 (by decide) ?_
    exact qZ (mSpec_n (show kSet a = (1 : Int32) from by simp [kSet, bI, hb3]) (by decide) rfl) X hM hS hret hlk (by decide) dX6_isAllowed_37

set_option maxHeartbeats 4000000 in
set_option maxRecDepth 100000 in
theorem c_X6_goods {l : Launch} {J : mG} {t a : Int32} : mMet l yX6_goods cX6_goods 2 (some .int) 2 0 0 J [.ref (ja J 0), .int a] (oF t) (fun sz => mQi J sz (mSpec (kSet a) 0)) := by
  refine mMet_of (by decide +kernel) (Nat.le_of_ble_eq_true rfl) ?_
  intro p e s m args below meth c ls X hM hret hlk hl
  have hS : mS J s.heap s.heap [] := va_S.rf
  refine lv_aload_n X.1 X.2.1 dX6_goods_0 rfl (lv_at hl 0 rfl) ?_
  refine lv_iconst (v := 0) X.1 X.2.1 dX6_goods_1 (by decide) ?_
  refine q_put X hM hS 0 (by decide) kl_X6_42 rfl rfl (by decide +kernel) rfl dX6_goods_2 (fun H locs hM hS => ?_)
  rw [oF_0] at hM
  refine lv_aload_n X.1 X.2.1 dX6_goods_5 rfl (lv_at hl 0 rfl) ?_
  refine lv_iload_n X.1 X.2.1 dX6_goods_6 rfl (lv_at hl 1 rfl) ?_
  refine kMI (As := [_]) X hM hS hl.1 c_X6_areCoupons rfl kl_X6_107 mf_X6_areCoupons ⟨Nat.le_of_ble_eq_true rfl, Nat.le_of_ble_eq_true rfl⟩ ⟨Nat.zero_le _, Nat.zero_le _⟩ rfl (Nat.le_of_ble_eq_true rfl) dX6_goods_7 (fun r7 o7 H locs hp7 hM hS => ?_)
  obtain ⟨e7, g7⟩ := hp7
  replace g7 := g7.symm
  subst g7
  rcases bI_cases e7 with ⟨hb7, rfl⟩ | ⟨hb7, rfl⟩
  · refine lv_if_ne (tgt := 19) X.1 X.2.1 dX6_goods_10 (by decide) (fun h10 => ?_) (fun h10 => absurd h10 (by decide))
    refine lv_aload_n X.1 X.2.1 dX6_goods_19 rfl (lv_at hl 0 rfl) ?_
    refine lv_iload_n X.1 X.2.1 dX6_goods_20 rfl (lv_at hl 1 rfl) ?_
    refine kMI (As := [_]) X hM hS hl.1 c_X6_isAllowedNow rfl kl_X6_110 mf_X6_isAllowedNow ⟨Nat.le_of_ble_eq_true rfl, Nat.le_of_ble_eq_true rfl⟩ ⟨Nat.zero_le _, Nat.zero_le _⟩ rfl (Nat.le_of_ble_eq_true rfl) dX6_goods_21 (fun r21 o21 H locs hp21 hM hS => ?_)
    obtain ⟨rfl, rfl⟩ := hp21
    refine lv_if_eq (tgt := 36) X.1 X.2.1 dX6_goods_24 (by decide) (fun h24 => absurd h24 (by decide)) (fun h24 => ?_)
    refine lv_aload_n X.1 X.2.1 dX6_goods_27 rfl (lv_at hl 0 rfl) ?_
    refine lv_iconst (v := 0) X.1 X.2.1 dX6_goods_28 (by decide) ?_
    refine lv_iload_n X.1 X.2.1 dX6_goods_29 rfl (lv_at hl 1 rfl) ?_
    refine kMI (As := [_, _]) X hM hS hl.1 c_X6_goodsOf rfl kl_X6_137 mf_X6_goodsOf ⟨Nat.le_of_ble_eq_true rfl, Nat.le_of_ble_eq_true rfl⟩ ⟨Nat.zero_le _, Nat.zero_le _⟩ rfl (Nat.le_of_ble_eq_true rfl) dX6_goods_30 (fun r30 o30 H locs hp30 hM hS => ?_)
    obtain ⟨rfl, rfl⟩ := hp30
    refine lv_goto (tgt := 41) X.1 X.2.1 dX6_goods_33 (by decide) ?_
    exact qI (mSpec_0 (show kSet a = (0 : Int32) from by simp [kSet, bI, hb7]) rfl rfl) X hM hS hret hlk dX6_goods_41
  · refine lv_if_ne (tgt := 19) X.1 X.2.1 dX6_goods_10 (by decide) (fun h10 => absurd (by decide) h10) (fun h10 => ?_)
    refine lv_aload_n X.1 X.2.1 dX6_goods_13 rfl (lv_at hl 0 rfl) ?_
    refine lv_iconst (v := 1) X.1 X.2.1 dX6_goods_14 (by decide) ?_
    refine kMI (As := [_]) X hM hS hl.1 c_X6_fail rfl kl_X6_58 mf_X6_fail ⟨Nat.le_of_ble_eq_true rfl, Nat.le_of_ble_eq_true rfl⟩ ⟨Nat.zero_le _, Nat.zero_le _⟩ rfl (Nat.le_of_ble_eq_true rfl) dX6_goods_15 (fun r15 o15 H locs hp15 hM hS => ?_)
    obtain ⟨rfl, rfl⟩ := hp15
    exact qI (mSpec_n (show kSet a = (1 : Int32) from by simp [kSet, bI, hb7]) (by decide) rfl) X hM hS hret hlk dX6_goods_18

set_option maxHeartbeats 4000000 in
set_option maxRecDepth 100000 in
theorem c_X6_total {l : Launch} {J : mG} {t a : Int32} : mMet l yX6_total cX6_total 2 (some .int) 3 0 0 J [.ref (ja J 0), .int a] (oF t) (fun sz => mQi J sz (mSpec (kSet a) 0)) := by
  refine mMet_of (by decide +kernel) (Nat.le_of_ble_eq_true rfl) ?_
  intro p e s m args below meth c ls X hM hret hlk hl
  have hS : mS J s.heap s.heap [] := va_S.rf
  refine lv_aload_n X.1 X.2.1 dX6_total_0 rfl (lv_at hl 0 rfl) ?_
  refine lv_iconst (v := 0) X.1 X.2.1 dX6_total_1 (by decide) ?_
  refine q_put X hM hS 0 (by decide) kl_X6_42 rfl rfl (by decide +kernel) rfl dX6_total_2 (fun H locs hM hS => ?_)
  rw [oF_0] at hM
  refine lv_aload_n X.1 X.2.1 dX6_total_5 rfl (lv_at hl 0 rfl) ?_
  refine lv_iload_n X.1 X.2.1 dX6_total_6 rfl (lv_at hl 1 rfl) ?_
  refine kMI (As := [_]) X hM hS hl.1 c_X6_areCoupons rfl kl_X6_107 mf_X6_areCoupons ⟨Nat.le_of_ble_eq_true rfl, Nat.le_of_ble_eq_true rfl⟩ ⟨Nat.zero_le _, Nat.zero_le _⟩ rfl (Nat.le_of_ble_eq_true rfl) dX6_total_7 (fun r7 o7 H locs hp7 hM hS => ?_)
  obtain ⟨e7, g7⟩ := hp7
  replace g7 := g7.symm
  subst g7
  rcases bI_cases e7 with ⟨hb7, rfl⟩ | ⟨hb7, rfl⟩
  · refine lv_if_ne (tgt := 19) X.1 X.2.1 dX6_total_10 (by decide) (fun h10 => ?_) (fun h10 => absurd h10 (by decide))
    refine lv_aload_n X.1 X.2.1 dX6_total_19 rfl (lv_at hl 0 rfl) ?_
    refine lv_iload_n X.1 X.2.1 dX6_total_20 rfl (lv_at hl 1 rfl) ?_
    refine kMI (As := [_]) X hM hS hl.1 c_X6_isAllowedNow rfl kl_X6_110 mf_X6_isAllowedNow ⟨Nat.le_of_ble_eq_true rfl, Nat.le_of_ble_eq_true rfl⟩ ⟨Nat.zero_le _, Nat.zero_le _⟩ rfl (Nat.le_of_ble_eq_true rfl) dX6_total_21 (fun r21 o21 H locs hp21 hM hS => ?_)
    obtain ⟨rfl, rfl⟩ := hp21
    refine lv_if_eq (tgt := 35) X.1 X.2.1 dX6_total_24 (by decide) (fun h24 => absurd h24 (by decide)) (fun h24 => ?_)
    refine lv_aload_n X.1 X.2.1 dX6_total_27 rfl (lv_at hl 0 rfl) ?_
    refine lv_iload_n X.1 X.2.1 dX6_total_28 rfl (lv_at hl 1 rfl) ?_
    refine kMI (As := [_]) X hM hS hl.1 c_X6_totalOf rfl kl_X6_143 mf_X6_totalOf ⟨Nat.le_of_ble_eq_true rfl, Nat.le_of_ble_eq_true rfl⟩ ⟨Nat.zero_le _, Nat.zero_le _⟩ rfl (Nat.le_of_ble_eq_true rfl) dX6_total_29 (fun r29 o29 H locs hp29 hM hS => ?_)
    obtain ⟨rfl, rfl⟩ := hp29
    refine lv_goto (tgt := 40) X.1 X.2.1 dX6_total_32 (by decide) ?_
    exact qI (mSpec_0 (show kSet a = (0 : Int32) from by simp [kSet, bI, hb7]) rfl rfl) X hM hS hret hlk dX6_total_40
  · refine lv_if_ne (tgt := 19) X.1 X.2.1 dX6_total_10 (by decide) (fun h10 => absurd (by decide) h10) (fun h10 => ?_)
    refine lv_aload_n X.1 X.2.1 dX6_total_13 rfl (lv_at hl 0 rfl) ?_
    refine lv_iconst (v := 1) X.1 X.2.1 dX6_total_14 (by decide) ?_
    refine kMI (As := [_]) X hM hS hl.1 c_X6_fail rfl kl_X6_58 mf_X6_fail ⟨Nat.le_of_ble_eq_true rfl, Nat.le_of_ble_eq_true rfl⟩ ⟨Nat.zero_le _, Nat.zero_le _⟩ rfl (Nat.le_of_ble_eq_true rfl) dX6_total_15 (fun r15 o15 H locs hp15 hM hS => ?_)
    obtain ⟨rfl, rfl⟩ := hp15
    exact qI (mSpec_n (show kSet a = (1 : Int32) from by simp [kSet, bI, hb7]) (by decide) rfl) X hM hS hret hlk dX6_total_18

set_option maxHeartbeats 4000000 in
set_option maxRecDepth 100000 in
theorem c_X6_rest {l : Launch} {J : mG} {t a b : Int32} : mMet l yX6_rest cX6_rest 5 (some .int) 2 0 0 J [.ref (ja J 0), .int a, .int b] (oF t) (fun sz => mQi J sz (mSpec (kTwo a) 0)) := by
  refine mMet_of (by decide +kernel) (Nat.le_of_ble_eq_true rfl) ?_
  intro p e s m args below meth c ls X hM hret hlk hl
  have hS : mS J s.heap s.heap [] := va_S.rf
  refine lv_aload_n X.1 X.2.1 dX6_rest_0 rfl (lv_at hl 0 rfl) ?_
  refine lv_iconst (v := 0) X.1 X.2.1 dX6_rest_1 (by decide) ?_
  refine q_put X hM hS 0 (by decide) kl_X6_42 rfl rfl (by decide +kernel) rfl dX6_rest_2 (fun H locs hM hS => ?_)
  rw [oF_0] at hM
  refine lv_aload_n X.1 X.2.1 dX6_rest_5 rfl (lv_at hl 0 rfl) ?_
  refine lv_iload_n X.1 X.2.1 dX6_rest_6 rfl (lv_at hl 1 rfl) ?_
  refine kMI (As := [_]) X hM hS hl.1 c_X6_areCoupons rfl kl_X6_107 mf_X6_areCoupons ⟨Nat.le_of_ble_eq_true rfl, Nat.le_of_ble_eq_true rfl⟩ ⟨Nat.zero_le _, Nat.zero_le _⟩ rfl (Nat.le_of_ble_eq_true rfl) dX6_rest_7 (fun r7 o7 H locs hp7 hM hS => ?_)
  obtain ⟨e7, g7⟩ := hp7
  replace g7 := g7.symm
  subst g7
  rcases bI_cases e7 with ⟨hb7, rfl⟩ | ⟨hb7, rfl⟩
  · refine lv_if_ne (tgt := 19) X.1 X.2.1 dX6_rest_10 (by decide) (fun h10 => ?_) (fun h10 => absurd h10 (by decide))
    refine lv_aload_n X.1 X.2.1 dX6_rest_19 rfl (lv_at hl 0 rfl) ?_
    refine lv_iload_n X.1 X.2.1 dX6_rest_20 rfl (lv_at hl 2 rfl) ?_
    refine kMI (As := [_]) X hM hS hl.1 c_X6_isArticle rfl kl_X6_62 mf_X6_isArticle ⟨Nat.le_of_ble_eq_true rfl, Nat.le_of_ble_eq_true rfl⟩ ⟨Nat.zero_le _, Nat.zero_le _⟩ rfl (Nat.le_of_ble_eq_true rfl) dX6_rest_21 (fun r21 o21 H locs hp21 hM hS => ?_)
    obtain ⟨rfl, rfl⟩ := hp21
    refine lv_if_ne (tgt := 33) X.1 X.2.1 dX6_rest_24 (by decide) (fun h24 => absurd (by decide) h24) (fun h24 => ?_)
    refine lv_aload_n X.1 X.2.1 dX6_rest_27 rfl (lv_at hl 0 rfl) ?_
    refine lv_iconst (v := 2) X.1 X.2.1 dX6_rest_28 (by decide) ?_
    refine kMI (As := [_]) X hM hS hl.1 c_X6_fail rfl kl_X6_58 mf_X6_fail ⟨Nat.le_of_ble_eq_true rfl, Nat.le_of_ble_eq_true rfl⟩ ⟨Nat.zero_le _, Nat.zero_le _⟩ rfl (Nat.le_of_ble_eq_true rfl) dX6_rest_29 (fun r29 o29 H locs hp29 hM hS => ?_)
    obtain ⟨rfl, rfl⟩ := hp29
    exact qI (mSpec_n (show kTwo a = (2 : Int32) from by simp [kTwo, hb7]) (by decide) rfl) X hM hS hret hlk dX6_rest_32
  · refine lv_if_ne (tgt := 19) X.1 X.2.1 dX6_rest_10 (by decide) (fun h10 => absurd (by decide) h10) (fun h10 => ?_)
    refine lv_aload_n X.1 X.2.1 dX6_rest_13 rfl (lv_at hl 0 rfl) ?_
    refine lv_iconst (v := 1) X.1 X.2.1 dX6_rest_14 (by decide) ?_
    refine kMI (As := [_]) X hM hS hl.1 c_X6_fail rfl kl_X6_58 mf_X6_fail ⟨Nat.le_of_ble_eq_true rfl, Nat.le_of_ble_eq_true rfl⟩ ⟨Nat.zero_le _, Nat.zero_le _⟩ rfl (Nat.le_of_ble_eq_true rfl) dX6_rest_15 (fun r15 o15 H locs hp15 hM hS => ?_)
    obtain ⟨rfl, rfl⟩ := hp15
    exact qI (mSpec_n (show kTwo a = (1 : Int32) from by simp [kTwo, hb7]) (by decide) rfl) X hM hS hret hlk dX6_rest_18

set_option maxHeartbeats 4000000 in
set_option maxRecDepth 100000 in
theorem c_X6_buy {l : Launch} {J : mG} {t a : Int32} : mMet l yX6_buy cX6_buy 3 (some .int) 2 0 0 J [.ref (ja J 0), .int a] (oF t) (fun sz => mQi J sz (mSpec (kTwo a) 0)) := by
  refine mMet_of (by decide +kernel) (Nat.le_of_ble_eq_true rfl) ?_
  intro p e s m args below meth c ls X hM hret hlk hl
  have hS : mS J s.heap s.heap [] := va_S.rf
  refine lv_aload_n X.1 X.2.1 dX6_buy_0 rfl (lv_at hl 0 rfl) ?_
  refine lv_iconst (v := 0) X.1 X.2.1 dX6_buy_1 (by decide) ?_
  refine q_put X hM hS 0 (by decide) kl_X6_42 rfl rfl (by decide +kernel) rfl dX6_buy_2 (fun H locs hM hS => ?_)
  rw [oF_0] at hM
  refine lv_aload_n X.1 X.2.1 dX6_buy_5 rfl (lv_at hl 0 rfl) ?_
  refine lv_iload_n X.1 X.2.1 dX6_buy_6 rfl (lv_at hl 1 rfl) ?_
  refine kMI (As := [_]) X hM hS hl.1 c_X6_areCoupons rfl kl_X6_107 mf_X6_areCoupons ⟨Nat.le_of_ble_eq_true rfl, Nat.le_of_ble_eq_true rfl⟩ ⟨Nat.zero_le _, Nat.zero_le _⟩ rfl (Nat.le_of_ble_eq_true rfl) dX6_buy_7 (fun r7 o7 H locs hp7 hM hS => ?_)
  obtain ⟨e7, g7⟩ := hp7
  replace g7 := g7.symm
  subst g7
  rcases bI_cases e7 with ⟨hb7, rfl⟩ | ⟨hb7, rfl⟩
  · refine lv_if_ne (tgt := 19) X.1 X.2.1 dX6_buy_10 (by decide) (fun h10 => ?_) (fun h10 => absurd h10 (by decide))
    refine lv_aload_n X.1 X.2.1 dX6_buy_19 rfl (lv_at hl 0 rfl) ?_
    refine lv_iload_n X.1 X.2.1 dX6_buy_20 rfl (lv_at hl 1 rfl) ?_
    refine kMI (As := [_]) X hM hS hl.1 c_X6_isAllowedNow rfl kl_X6_110 mf_X6_isAllowedNow ⟨Nat.le_of_ble_eq_true rfl, Nat.le_of_ble_eq_true rfl⟩ ⟨Nat.zero_le _, Nat.zero_le _⟩ rfl (Nat.le_of_ble_eq_true rfl) dX6_buy_21 (fun r21 o21 H locs hp21 hM hS => ?_)
    obtain ⟨rfl, rfl⟩ := hp21
    refine lv_if_eq (tgt := 44) X.1 X.2.1 dX6_buy_24 (by decide) (fun h24 => absurd h24 (by decide)) (fun h24 => ?_)
    refine lv_aload_n X.1 X.2.1 dX6_buy_27 rfl (lv_at hl 0 rfl) ?_
    refine lv_iconst (v := 0) X.1 X.2.1 dX6_buy_28 (by decide) ?_
    refine kMI (As := [_]) X hM hS hl.1 c_X6_sizeOf rfl kl_X6_134 mf_X6_sizeOf ⟨Nat.le_of_ble_eq_true rfl, Nat.le_of_ble_eq_true rfl⟩ ⟨Nat.zero_le _, Nat.zero_le _⟩ rfl (Nat.le_of_ble_eq_true rfl) dX6_buy_29 (fun r29 o29 H locs hp29 hM hS => ?_)
    obtain ⟨rfl, rfl⟩ := hp29
    refine lv_if_eq (tgt := 44) X.1 X.2.1 dX6_buy_32 (by decide) (fun h32 => ?_) (fun h32 => absurd (by decide) h32)
    refine lv_aload_n X.1 X.2.1 dX6_buy_44 rfl (lv_at hl 0 rfl) ?_
    refine lv_iconst (v := 2) X.1 X.2.1 dX6_buy_45 (by decide) ?_
    refine kMI (As := [_]) X hM hS hl.1 c_X6_fail rfl kl_X6_58 mf_X6_fail ⟨Nat.le_of_ble_eq_true rfl, Nat.le_of_ble_eq_true rfl⟩ ⟨Nat.zero_le _, Nat.zero_le _⟩ rfl (Nat.le_of_ble_eq_true rfl) dX6_buy_46 (fun r46 o46 H locs hp46 hM hS => ?_)
    obtain ⟨rfl, rfl⟩ := hp46
    exact qI (mSpec_n (show kTwo a = (2 : Int32) from by simp [kTwo, hb7]) (by decide) rfl) X hM hS hret hlk dX6_buy_49
  · refine lv_if_ne (tgt := 19) X.1 X.2.1 dX6_buy_10 (by decide) (fun h10 => absurd (by decide) h10) (fun h10 => ?_)
    refine lv_aload_n X.1 X.2.1 dX6_buy_13 rfl (lv_at hl 0 rfl) ?_
    refine lv_iconst (v := 1) X.1 X.2.1 dX6_buy_14 (by decide) ?_
    refine kMI (As := [_]) X hM hS hl.1 c_X6_fail rfl kl_X6_58 mf_X6_fail ⟨Nat.le_of_ble_eq_true rfl, Nat.le_of_ble_eq_true rfl⟩ ⟨Nat.zero_le _, Nat.zero_le _⟩ rfl (Nat.le_of_ble_eq_true rfl) dX6_buy_15 (fun r15 o15 H locs hp15 hM hS => ?_)
    obtain ⟨rfl, rfl⟩ := hp15
    exact qI (mSpec_n (show kTwo a = (1 : Int32) from by simp [kTwo, hb7]) (by decide) rfl) X hM hS hret hlk dX6_buy_18

set_option maxHeartbeats 4000000 in
set_option maxRecDepth 100000 in
theorem c_X6_setShipping {l : Launch} {J : mG} {t a b : Int32} : mMet l yX6_setShipping cX6_setShipping 4 (some .int) 2 0 0 J [.ref (ja J 0), .int a, .int b] (oF t) (fun sz => mQi J sz (mSpec (kSS a b) 0)) := by
  refine mMet_of (by decide +kernel) (Nat.le_of_ble_eq_true rfl) ?_
  intro p e s m args below meth c ls X hM hret hlk hl
  have hS : mS J s.heap s.heap [] := va_S.rf
  refine lv_aload_n X.1 X.2.1 dX6_setShipping_0 rfl (lv_at hl 0 rfl) ?_
  refine lv_iconst (v := 0) X.1 X.2.1 dX6_setShipping_1 (by decide) ?_
  refine q_put X hM hS 0 (by decide) kl_X6_42 rfl rfl (by decide +kernel) rfl dX6_setShipping_2 (fun H locs hM hS => ?_)
  rw [oF_0] at hM
  refine lv_iload_n X.1 X.2.1 dX6_setShipping_5 rfl (lv_at hl 1 rfl) ?_
  refine lv_iconst (v := 0) X.1 X.2.1 dX6_setShipping_6 (by decide) ?_
  refine lv_sipush (v := 10000) X.1 X.2.1 dX6_setShipping_7 (by decide) ?_
  refine kMS (As := [_, _, _]) X hM hS hl.1 c_X6_isIn kl_X6_48 mf_X6_isIn ⟨Nat.le_of_ble_eq_true rfl, Nat.le_of_ble_eq_true rfl⟩ ⟨Nat.zero_le _, Nat.zero_le _⟩ rfl (Nat.le_of_ble_eq_true rfl) dX6_setShipping_10 (fun r10 o10 H locs hp10 hM hS => ?_)
  obtain ⟨e10, g10⟩ := hp10
  replace g10 := g10.symm
  subst g10
  rcases bI_cases e10 with ⟨hb10, rfl⟩ | ⟨hb10, rfl⟩
  · refine lv_if_eq (tgt := 26) X.1 X.2.1 dX6_setShipping_13 (by decide) (fun h13 => absurd h13 (by decide)) (fun h13 => ?_)
    refine lv_iload_n X.1 X.2.1 dX6_setShipping_16 rfl (lv_at hl 2 rfl) ?_
    refine lv_iconst (v := 0) X.1 X.2.1 dX6_setShipping_17 (by decide) ?_
    refine lv_ldc (v := 1000000) X.1 X.2.1 X.2.2.2.1 (X.2.2.2.2.1 _ kl_X6_19) dX6_setShipping_18 ?_
    refine kMS (As := [_, _, _]) X hM hS hl.1 c_X6_isIn kl_X6_48 mf_X6_isIn ⟨Nat.le_of_ble_eq_true rfl, Nat.le_of_ble_eq_true rfl⟩ ⟨Nat.zero_le _, Nat.zero_le _⟩ rfl (Nat.le_of_ble_eq_true rfl) dX6_setShipping_20 (fun r20 o20 H locs hp20 hM hS => ?_)
    obtain ⟨e20, g20⟩ := hp20
    replace g20 := g20.symm
    subst g20
    rcases bI_cases e20 with ⟨hb20, rfl⟩ | ⟨hb20, rfl⟩
    · refine lv_if_ne (tgt := 32) X.1 X.2.1 dX6_setShipping_23 (by decide) (fun h23 => ?_) (fun h23 => absurd h23 (by decide))
      refine lv_aload_n X.1 X.2.1 dX6_setShipping_32 rfl (lv_at hl 0 rfl) ?_
      refine q_get (v := .int 0) X hM 5 (by decide) kl_X6_69 rfl rfl dX6_setShipping_33 ?_
      refine lv_istore_n X.1 X.2.1 dX6_setShipping_36 rfl hl (by decide) rfl (fun ls hl => ?_)
      replace hl : lv_has ls 4 [(3, _), (0, _), (1, _), (2, _)] := hl
      refine lv_aload_n X.1 X.2.1 dX6_setShipping_37 rfl (lv_at hl 1 rfl) ?_
      refine lv_iload_n X.1 X.2.1 dX6_setShipping_38 rfl (lv_at hl 2 rfl) ?_
      refine q_put X hM hS 5 (by decide) kl_X6_69 rfl rfl (by decide +kernel) rfl dX6_setShipping_39 (fun H locs hM hS => ?_)
      refine lv_aload_n X.1 X.2.1 dX6_setShipping_42 rfl (lv_at hl 1 rfl) ?_
      refine lv_iload_n X.1 X.2.1 dX6_setShipping_43 rfl (lv_at hl 3 rfl) ?_
      refine q_put X hM hS 6 (by decide) kl_X6_20 rfl rfl (by decide +kernel) rfl dX6_setShipping_44 (fun H locs hM hS => ?_)
      refine lv_iload_n X.1 X.2.1 dX6_setShipping_47 rfl (lv_at hl 0 rfl) ?_
      exact qI (mSpec_0 (show kSS a b = (0 : Int32) from by simp [kSS, bI, hb10, hb20]) rfl rfl) X hM hS hret hlk dX6_setShipping_48
    · refine lv_if_ne (tgt := 32) X.1 X.2.1 dX6_setShipping_23 (by decide) (fun h23 => absurd (by decide) h23) (fun h23 => ?_)
      refine lv_aload_n X.1 X.2.1 dX6_setShipping_26 rfl (lv_at hl 0 rfl) ?_
      refine lv_iconst (v := 1) X.1 X.2.1 dX6_setShipping_27 (by decide) ?_
      refine kMI (As := [_]) X hM hS hl.1 c_X6_fail rfl kl_X6_58 mf_X6_fail ⟨Nat.le_of_ble_eq_true rfl, Nat.le_of_ble_eq_true rfl⟩ ⟨Nat.zero_le _, Nat.zero_le _⟩ rfl (Nat.le_of_ble_eq_true rfl) dX6_setShipping_28 (fun r28 o28 H locs hp28 hM hS => ?_)
      obtain ⟨rfl, rfl⟩ := hp28
      exact qI (mSpec_n (show kSS a b = (1 : Int32) from by simp [kSS, bI, hb10, hb20]) (by decide) rfl) X hM hS hret hlk dX6_setShipping_31
  · refine lv_if_eq (tgt := 26) X.1 X.2.1 dX6_setShipping_13 (by decide) (fun h13 => ?_) (fun h13 => absurd (by decide) h13)
    refine lv_aload_n X.1 X.2.1 dX6_setShipping_26 rfl (lv_at hl 0 rfl) ?_
    refine lv_iconst (v := 1) X.1 X.2.1 dX6_setShipping_27 (by decide) ?_
    refine kMI (As := [_]) X hM hS hl.1 c_X6_fail rfl kl_X6_58 mf_X6_fail ⟨Nat.le_of_ble_eq_true rfl, Nat.le_of_ble_eq_true rfl⟩ ⟨Nat.zero_le _, Nat.zero_le _⟩ rfl (Nat.le_of_ble_eq_true rfl) dX6_setShipping_28 (fun r28 o28 H locs hp28 hM hS => ?_)
    obtain ⟨rfl, rfl⟩ := hp28
    exact qI (mSpec_n (show kSS a b = (1 : Int32) from by simp [kSS, bI, hb10]) (by decide) rfl) X hM hS hret hlk dX6_setShipping_31

set_option maxHeartbeats 4000000 in
set_option maxRecDepth 100000 in
theorem c_X6_addArticle {l : Launch} {J : mG} {t a b : Int32} : mMet l yX6_addArticle cX6_addArticle 3 (some .int) 2 0 0 J [.ref (ja J 0), .int a, .int b] (oF t) (fun sz => mQi J sz (mSpec (kAA a b) 0)) := by
  refine mMet_of (by decide +kernel) (Nat.le_of_ble_eq_true rfl) ?_
  intro p e s m args below meth c ls X hM hret hlk hl
  have hS : mS J s.heap s.heap [] := va_S.rf
  refine lv_aload_n X.1 X.2.1 dX6_addArticle_0 rfl (lv_at hl 0 rfl) ?_
  refine lv_iconst (v := 0) X.1 X.2.1 dX6_addArticle_1 (by decide) ?_
  refine q_put X hM hS 0 (by decide) kl_X6_42 rfl rfl (by decide +kernel) rfl dX6_addArticle_2 (fun H locs hM hS => ?_)
  rw [oF_0] at hM
  refine lv_iload_n X.1 X.2.1 dX6_addArticle_5 rfl (lv_at hl 1 rfl) ?_
  refine lv_iconst (v := 1) X.1 X.2.1 dX6_addArticle_6 (by decide) ?_
  refine lv_sipush (v := 10000) X.1 X.2.1 dX6_addArticle_7 (by decide) ?_
  refine kMS (As := [_, _, _]) X hM hS hl.1 c_X6_isIn kl_X6_48 mf_X6_isIn ⟨Nat.le_of_ble_eq_true rfl, Nat.le_of_ble_eq_true rfl⟩ ⟨Nat.zero_le _, Nat.zero_le _⟩ rfl (Nat.le_of_ble_eq_true rfl) dX6_addArticle_10 (fun r10 o10 H locs hp10 hM hS => ?_)
  obtain ⟨e10, g10⟩ := hp10
  replace g10 := g10.symm
  subst g10
  rcases bI_cases e10 with ⟨hb10, rfl⟩ | ⟨hb10, rfl⟩
  · refine lv_if_eq (tgt := 26) X.1 X.2.1 dX6_addArticle_13 (by decide) (fun h13 => absurd h13 (by decide)) (fun h13 => ?_)
    refine lv_iload_n X.1 X.2.1 dX6_addArticle_16 rfl (lv_at hl 2 rfl) ?_
    refine lv_iconst (v := 0) X.1 X.2.1 dX6_addArticle_17 (by decide) ?_
    refine lv_bipush (v := 7) X.1 X.2.1 dX6_addArticle_18 (by decide) ?_
    refine kMS (As := [_, _, _]) X hM hS hl.1 c_X6_isIn kl_X6_48 mf_X6_isIn ⟨Nat.le_of_ble_eq_true rfl, Nat.le_of_ble_eq_true rfl⟩ ⟨Nat.zero_le _, Nat.zero_le _⟩ rfl (Nat.le_of_ble_eq_true rfl) dX6_addArticle_20 (fun r20 o20 H locs hp20 hM hS => ?_)
    obtain ⟨e20, g20⟩ := hp20
    replace g20 := g20.symm
    subst g20
    rcases bI_cases e20 with ⟨hb20, rfl⟩ | ⟨hb20, rfl⟩
    · refine lv_if_ne (tgt := 32) X.1 X.2.1 dX6_addArticle_23 (by decide) (fun h23 => ?_) (fun h23 => absurd h23 (by decide))
      refine lv_aload_n X.1 X.2.1 dX6_addArticle_32 rfl (lv_at hl 0 rfl) ?_
      refine q_get (v := .int 0) X hM 1 (by decide) kl_X6_45 rfl rfl dX6_addArticle_33 ?_
      refine lv_bipush (v := 10) X.1 X.2.1 dX6_addArticle_36 (by decide) ?_
      refine lv_icmp_ne (tgt := 47) X.1 X.2.1 dX6_addArticle_38 (by decide) (fun h38 => ?_) (fun h38 => absurd h38 (by decide))
      refine lv_aload_n X.1 X.2.1 dX6_addArticle_47 rfl (lv_at hl 0 rfl) ?_
      refine q_get (v := .ref (ja J 3)) X hM 4 (by decide) kl_X6_16 rfl rfl dX6_addArticle_48 ?_
      refine lv_aload_n X.1 X.2.1 dX6_addArticle_51 rfl (lv_at hl 0 rfl) ?_
      refine q_get (v := .int 0) X hM 1 (by decide) kl_X6_45 rfl rfl dX6_addArticle_52 ?_
      refine lv_iload_n X.1 X.2.1 dX6_addArticle_55 rfl (lv_at hl 1 rfl) ?_
      refine q_ast (i := 0) (q := 3) (N := 130) (f := fun r => r 3) X hM hS (fun _ => rfl) (fun _ _ => rfl) (vp_in_nI (n := 0) (by decide) (by decide)) dX6_addArticle_56 (fun H locs hM hS => ?_)
      refine lv_aload_n X.1 X.2.1 dX6_addArticle_57 rfl (lv_at hl 0 rfl) ?_
      refine q_get (v := .ref (ja J 1)) X hM 2 (by decide) kl_X6_9 rfl rfl dX6_addArticle_58 ?_
      refine lv_aload_n X.1 X.2.1 dX6_addArticle_61 rfl (lv_at hl 0 rfl) ?_
      refine q_get (v := .int 0) X hM 1 (by decide) kl_X6_45 rfl rfl dX6_addArticle_62 ?_
      refine lv_iload_n X.1 X.2.1 dX6_addArticle_65 rfl (lv_at hl 2 rfl) ?_
      refine q_ast (i := 0) (q := 1) (N := 10) (f := fun r => r 1) X hM hS (fun _ => rfl) (fun _ _ => rfl) (vp_in_nI (n := 0) (by decide) (by decide)) dX6_addArticle_66 (fun H locs hM hS => ?_)
      refine lv_aload_n X.1 X.2.1 dX6_addArticle_67 rfl (lv_at hl 0 rfl) ?_
      refine lv_dup X.1 X.2.1 dX6_addArticle_68 rfl ?_
      refine q_get (v := .int 0) X hM 1 (by decide) kl_X6_45 rfl rfl dX6_addArticle_69 ?_
      refine lv_iconst (v := 1) X.1 X.2.1 dX6_addArticle_72 (by decide) ?_
      refine lv_iadd X.1 X.2.1 dX6_addArticle_73 ?_
      refine r_as (b := 1) (by decide) ?_
      refine q_put X hM hS 1 (by decide) kl_X6_45 rfl rfl (by decide +kernel) rfl dX6_addArticle_74 (fun H locs hM hS => ?_)
      refine lv_aload_n X.1 X.2.1 dX6_addArticle_77 rfl (lv_at hl 0 rfl) ?_
      refine q_get (v := .int 1) X hM 1 (by decide) kl_X6_45 rfl rfl dX6_addArticle_78 ?_
      refine lv_iconst (v := 1) X.1 X.2.1 dX6_addArticle_81 (by decide) ?_
      refine lv_isub X.1 X.2.1 dX6_addArticle_82 ?_
      refine r_as (b := 0) (by decide) ?_
      exact qI (mSpec_0 (show kAA a b = (0 : Int32) from by simp [kAA, bI, hb10, hb20]) rfl rfl) X hM hS hret hlk dX6_addArticle_83
    · refine lv_if_ne (tgt := 32) X.1 X.2.1 dX6_addArticle_23 (by decide) (fun h23 => absurd (by decide) h23) (fun h23 => ?_)
      refine lv_aload_n X.1 X.2.1 dX6_addArticle_26 rfl (lv_at hl 0 rfl) ?_
      refine lv_iconst (v := 1) X.1 X.2.1 dX6_addArticle_27 (by decide) ?_
      refine kMI (As := [_]) X hM hS hl.1 c_X6_fail rfl kl_X6_58 mf_X6_fail ⟨Nat.le_of_ble_eq_true rfl, Nat.le_of_ble_eq_true rfl⟩ ⟨Nat.zero_le _, Nat.zero_le _⟩ rfl (Nat.le_of_ble_eq_true rfl) dX6_addArticle_28 (fun r28 o28 H locs hp28 hM hS => ?_)
      obtain ⟨rfl, rfl⟩ := hp28
      exact qI (mSpec_n (show kAA a b = (1 : Int32) from by simp [kAA, bI, hb10, hb20]) (by decide) rfl) X hM hS hret hlk dX6_addArticle_31
  · refine lv_if_eq (tgt := 26) X.1 X.2.1 dX6_addArticle_13 (by decide) (fun h13 => ?_) (fun h13 => absurd (by decide) h13)
    refine lv_aload_n X.1 X.2.1 dX6_addArticle_26 rfl (lv_at hl 0 rfl) ?_
    refine lv_iconst (v := 1) X.1 X.2.1 dX6_addArticle_27 (by decide) ?_
    refine kMI (As := [_]) X hM hS hl.1 c_X6_fail rfl kl_X6_58 mf_X6_fail ⟨Nat.le_of_ble_eq_true rfl, Nat.le_of_ble_eq_true rfl⟩ ⟨Nat.zero_le _, Nat.zero_le _⟩ rfl (Nat.le_of_ble_eq_true rfl) dX6_addArticle_28 (fun r28 o28 H locs hp28 hM hS => ?_)
    obtain ⟨rfl, rfl⟩ := hp28
    exact qI (mSpec_n (show kAA a b = (1 : Int32) from by simp [kAA, bI, hb10]) (by decide) rfl) X hM hS hret hlk dX6_addArticle_31

set_option maxHeartbeats 4000000 in
set_option maxRecDepth 100000 in
theorem c_X6_level {l : Launch} {J : mG} {t : Int32} : mMet l yX6_level cX6_level 4 (some .double) 1 0 0 J [.ref (ja J 0)] (oF t) (fun sz => mQd J sz (fun x _ => x = FP.dconst1)) := by
  refine mMet_of (by decide +kernel) (Nat.le_of_ble_eq_true rfl) ?_
  intro p e s m args below meth c ls X hM hret hlk hl
  have hS : mS J s.heap s.heap [] := va_S.rf
  refine lv_aload_n X.1 X.2.1 dX6_level_0 rfl (lv_at hl 0 rfl) ?_
  refine lv_iconst (v := 0) X.1 X.2.1 dX6_level_1 (by decide) ?_
  refine q_put X hM hS 0 (by decide) kl_X6_42 rfl rfl (by decide +kernel) rfl dX6_level_2 (fun H locs hM hS => ?_)
  rw [oF_0] at hM
  refine lv_iconst (v := 0) X.1 X.2.1 dX6_level_5 (by decide) ?_
  refine lv_istore_n X.1 X.2.1 dX6_level_6 rfl hl (by decide) rfl (fun ls hl => ?_)
  replace hl : lv_has ls 4 [(1, _), (0, _)] := hl
  refine lv_iconst (v := 0) X.1 X.2.1 dX6_level_7 (by decide) ?_
  refine lv_istore_n X.1 X.2.1 dX6_level_8 rfl hl (by decide) rfl (fun ls hl => ?_)
  replace hl : lv_has ls 4 [(2, _), (1, _), (0, _)] := hl
  refine lv_iconst (v := 0) X.1 X.2.1 dX6_level_9 (by decide) ?_
  refine lv_istore_n X.1 X.2.1 dX6_level_10 rfl hl (by decide) rfl (fun ls hl => ?_)
  replace hl : lv_has ls 4 [(3, _), (2, _), (1, _), (0, _)] := hl
  refine lv_iload_n X.1 X.2.1 dX6_level_11 rfl (lv_at hl 0 rfl) ?_
  refine lv_aload_n X.1 X.2.1 dX6_level_12 rfl (lv_at hl 3 rfl) ?_
  refine q_get (v := .int 0) X hM 9 (by decide) kl_X6_55 rfl rfl dX6_level_13 ?_
  refine lv_icmp_ge (tgt := 44) X.1 X.2.1 dX6_level_16 (by decide) (fun h16 => ?_) (fun h16 => absurd (by decide) h16)
  refine lv_iload_n X.1 X.2.1 dX6_level_44 rfl (lv_at hl 1 rfl) ?_
  refine lv_if_ne (tgt := 52) X.1 X.2.1 dX6_level_45 (by decide) (fun h45 => absurd (by decide) h45) (fun h45 => ?_)
  refine lv_dconst1 X.1 X.2.1 dX6_level_48 ?_
  refine lv_goto (tgt := 57) X.1 X.2.1 dX6_level_49 (by decide) ?_
  exact qD (o' := oF 0) rfl X hM hS hret hlk dX6_level_57

set_option maxHeartbeats 4000000 in
set_option maxRecDepth 100000 in
theorem c_X6_digest {l : Launch} {J : mG} {t : Int32} : mMet l yX6_digest cX6_digest 5 (some .long) 1 0 0 J [.ref (ja J 0)] (oF t) (fun sz => mQl J sz (fun x _ => x = ((((6169 + (0 : Int32).toInt64) * 31 + (0 : Int32).toInt64) * 31 + (1000000 : Int32).toInt64) * 31 + (0 : Int32).toInt64) * 31 + (0 : Int32).toInt64)) := by
  refine mMet_of (by decide +kernel) (Nat.le_of_ble_eq_true rfl) ?_
  intro p e s m args below meth c ls X hM hret hlk hl
  have hS : mS J s.heap s.heap [] := va_S.rf
  refine lv_aload_n X.1 X.2.1 dX6_digest_0 rfl (lv_at hl 0 rfl) ?_
  refine lv_iconst (v := 0) X.1 X.2.1 dX6_digest_1 (by decide) ?_
  refine q_put X hM hS 0 (by decide) kl_X6_42 rfl rfl (by decide +kernel) rfl dX6_digest_2 (fun H locs hM hS => ?_)
  rw [oF_0] at hM
  refine lv_ldc2 (v := 6169) X.1 X.2.1 X.2.2.2.1 (X.2.2.2.2.1 _ kl_X6_161) dX6_digest_5 ?_
  refine lv_aload_n X.1 X.2.1 dX6_digest_8 rfl (lv_at hl 0 rfl) ?_
  refine q_get (v := .int 0) X hM 1 (by decide) kl_X6_45 rfl rfl dX6_digest_9 ?_
  refine lv_i2l X.1 X.2.1 dX6_digest_12 rfl ?_
  refine lv_ladd X.1 X.2.1 dX6_digest_13 ?_
  refine lv_lstore_n X.1 X.2.1 dX6_digest_14 rfl hl (by decide) rfl (fun ls hl => ?_)
  replace hl : lv_has ls 5 [(1, _), (0, _)] := hl
  refine lv_iconst (v := 0) X.1 X.2.1 dX6_digest_15 (by decide) ?_
  refine lv_istore_n X.1 X.2.1 dX6_digest_16 rfl hl (by decide) rfl (fun ls hl => ?_)
  replace hl : lv_has ls 5 [(3, _), (1, _), (0, _)] := hl
  refine lv_iload_n X.1 X.2.1 dX6_digest_17 rfl (lv_at hl 0 rfl) ?_
  refine lv_aload_n X.1 X.2.1 dX6_digest_18 rfl (lv_at hl 2 rfl) ?_
  refine q_get (v := .int 0) X hM 1 (by decide) kl_X6_45 rfl rfl dX6_digest_19 ?_
  refine lv_icmp_ge (tgt := 69) X.1 X.2.1 dX6_digest_22 (by decide) (fun h22 => ?_) (fun h22 => absurd (by decide) h22)
  refine lv_lload_n X.1 X.2.1 dX6_digest_69 rfl (lv_at hl 1 rfl) ?_
  refine lv_ldc2 (v := 31) X.1 X.2.1 X.2.2.2.1 (X.2.2.2.2.1 _ kl_X6_163) dX6_digest_70 ?_
  refine lv_lmul X.1 X.2.1 dX6_digest_73 ?_
  refine lv_aload_n X.1 X.2.1 dX6_digest_74 rfl (lv_at hl 2 rfl) ?_
  refine q_get (v := .int 0) X hM 5 (by decide) kl_X6_69 rfl rfl dX6_digest_75 ?_
  refine lv_i2l X.1 X.2.1 dX6_digest_78 rfl ?_
  refine lv_ladd X.1 X.2.1 dX6_digest_79 ?_
  refine lv_ldc2 (v := 31) X.1 X.2.1 X.2.2.2.1 (X.2.2.2.2.1 _ kl_X6_163) dX6_digest_80 ?_
  refine lv_lmul X.1 X.2.1 dX6_digest_83 ?_
  refine lv_aload_n X.1 X.2.1 dX6_digest_84 rfl (lv_at hl 2 rfl) ?_
  refine q_get (v := .int 1000000) X hM 6 (by decide) kl_X6_20 rfl rfl dX6_digest_85 ?_
  refine lv_i2l X.1 X.2.1 dX6_digest_88 rfl ?_
  refine lv_ladd X.1 X.2.1 dX6_digest_89 ?_
  refine lv_ldc2 (v := 31) X.1 X.2.1 X.2.2.2.1 (X.2.2.2.2.1 _ kl_X6_163) dX6_digest_90 ?_
  refine lv_lmul X.1 X.2.1 dX6_digest_93 ?_
  refine lv_aload_n X.1 X.2.1 dX6_digest_94 rfl (lv_at hl 2 rfl) ?_
  refine q_get (v := .int 0) X hM 7 (by decide) kl_X6_52 rfl rfl dX6_digest_95 ?_
  refine lv_i2l X.1 X.2.1 dX6_digest_98 rfl ?_
  refine lv_ladd X.1 X.2.1 dX6_digest_99 ?_
  refine lv_lstore_n X.1 X.2.1 dX6_digest_100 rfl hl (by decide) rfl (fun ls hl => ?_)
  replace hl : lv_has ls 5 [(1, _), (3, _), (0, _)] := hl
  refine lv_iconst (v := 0) X.1 X.2.1 dX6_digest_101 (by decide) ?_
  refine lv_istore_n X.1 X.2.1 dX6_digest_102 rfl hl (by decide) rfl (fun ls hl => ?_)
  replace hl : lv_has ls 5 [(3, _), (1, _), (0, _)] := hl
  refine lv_iload_n X.1 X.2.1 dX6_digest_103 rfl (lv_at hl 0 rfl) ?_
  refine lv_bipush (v := 6) X.1 X.2.1 dX6_digest_104 (by decide) ?_
  refine lv_aload_n X.1 X.2.1 dX6_digest_106 rfl (lv_at hl 2 rfl) ?_
  refine q_get (v := .int 0) X hM 7 (by decide) kl_X6_52 rfl rfl dX6_digest_107 ?_
  refine lv_imul X.1 X.2.1 dX6_digest_110 ?_
  refine r_as (b := 0) (by decide) ?_
  refine lv_icmp_ge (tgt := 134) X.1 X.2.1 dX6_digest_111 (by decide) (fun h111 => ?_) (fun h111 => absurd (by decide) h111)
  refine lv_lload_n X.1 X.2.1 dX6_digest_134 rfl (lv_at hl 1 rfl) ?_
  refine lv_ldc2 (v := 31) X.1 X.2.1 X.2.2.2.1 (X.2.2.2.2.1 _ kl_X6_163) dX6_digest_135 ?_
  refine lv_lmul X.1 X.2.1 dX6_digest_138 ?_
  refine lv_aload_n X.1 X.2.1 dX6_digest_139 rfl (lv_at hl 2 rfl) ?_
  refine q_get (v := .int 0) X hM 9 (by decide) kl_X6_55 rfl rfl dX6_digest_140 ?_
  refine lv_i2l X.1 X.2.1 dX6_digest_143 rfl ?_
  refine lv_ladd X.1 X.2.1 dX6_digest_144 ?_
  refine lv_lstore_n X.1 X.2.1 dX6_digest_145 rfl hl (by decide) rfl (fun ls hl => ?_)
  replace hl : lv_has ls 5 [(1, _), (3, _), (0, _)] := hl
  refine lv_iconst (v := 0) X.1 X.2.1 dX6_digest_146 (by decide) ?_
  refine lv_istore_n X.1 X.2.1 dX6_digest_147 rfl hl (by decide) rfl (fun ls hl => ?_)
  replace hl : lv_has ls 5 [(3, _), (1, _), (0, _)] := hl
  refine lv_iload_n X.1 X.2.1 dX6_digest_148 rfl (lv_at hl 0 rfl) ?_
  refine lv_aload_n X.1 X.2.1 dX6_digest_149 rfl (lv_at hl 2 rfl) ?_
  refine q_get (v := .int 0) X hM 9 (by decide) kl_X6_55 rfl rfl dX6_digest_150 ?_
  refine lv_icmp_ge (tgt := 192) X.1 X.2.1 dX6_digest_153 (by decide) (fun h153 => ?_) (fun h153 => absurd (by decide) h153)
  refine lv_lload_n X.1 X.2.1 dX6_digest_192 rfl (lv_at hl 1 rfl) ?_
  exact qJ (o' := oF 0) rfl X hM hS hret hlk dX6_digest_193
