/-! ===== CouponDesk: goods, the search ===== -/
set_option maxHeartbeats 4000000 in
set_option maxRecDepth 100000 in
theorem c_X5_layAndApply {l : Launch} {G : dG} {ν : Mm} {L st : Nat} (hW : WD ν) (hL : lotB L) (hs : st < 2 ^ 31) : cV l yX5_layAndApply cX5_layAndApply 4 4 G [.ref (ra G 0), .ref (ra G L), .int (nI st)] ν (fun ν' => dsk ν ν' ∧ ν' 21 = ν 21 ∧ TL ν L ν' ∧ ∀ j, j < cnt ν L 10 → ν' (11 + 0) j = rsF ν L st (ν 0 6) j) := by
  refine cV_of (by decide +kernel) (Nat.le_of_ble_eq_true rfl) ?_
  intro p e s m args below meth c ls X hM hret hlk hl
  have hS : dS G s.heap s.heap [] := va_S.rf
  have hnc := hW.nc
  have h60 := hW.n60 hL
  refine lv_aload_n X.1 X.2.1 dX5_layAndApply_0 rfl (lv_at hl 0 rfl) ?_
  refine m_get (ci := 5) (C := RX5) (T := TX5) (N := 10) X hM inA5 (by decide) (dE_desk G _) rfl 3 (by decide) kl_X5_31 rfl rfl dX5_layAndApply_1 ?_
  refine lv_aload_n X.1 X.2.1 dX5_layAndApply_4 rfl (lv_at hl 1 rfl) ?_
  refine kNV (As := [_]) X hM hS hl.1 (c_X4_lay hL (hW.c6 hL)) (by decide) (dE_tray G _) rfl rfl kl_X5_261 mf_X4_lay ⟨Nat.le_of_ble_eq_true rfl, Nat.le_of_ble_eq_true rfl⟩ ⟨Nat.zero_le _, Nat.zero_le _⟩ rfl (Nat.le_of_ble_eq_true rfl) dX5_layAndApply_5 (fun ν5 H locs hp5 hM hS => ?_)
  refine tn_ic (v := 0) X dX5_layAndApply_8 (by decide) ?_
  refine lv_istore_n X.1 X.2.1 dX5_layAndApply_9 rfl hl (by decide) rfl (fun ls hl => ?_)
  replace hl : lv_has ls 4 [(3, _), (0, _), (1, _), (2, _)] := hl
  have Lp : ∀ (k : Nat) (j : Nat) (μ : Mm), j + k = ν 0 6 → dsk ν μ → μ 21 = ν 21 → TL ν L μ → (∀ i, i < cnt ν L 10 → μ (11 + 0) i = rsF ν L st j i) → ∀ (ls : Array Slot) (H : Heap) (locs : List Loc), dM G μ H → dS G s.heap H locs → lv_has ls 4 [(0, .ref (ra G 0)), (2, .int (nI st)), (3, .int (nI j))] → W p l e (rmD 4) s m args below meth c H locs 0 0 (MQ below (dQv G s.heap.size (fun ν' => dsk ν ν' ∧ ν' 21 = ν 21 ∧ TL ν L ν' ∧ ∀ j, j < cnt ν L 10 → ν' (11 + 0) j = rsF ν L st (ν 0 6) j)) args s 0 0 (dA G s.heap.size)) (F0 m 10 ls []) := by
    intro k
    induction k with
    | zero =>
      intro j μ hj hds h21 hT hrow ls H locs hM hS hl
      have e0 : μ 0 6 = ν 0 6 := by rw [hds.d]
      have ec : μ (22 + j) = ν (22 + j) := hds.c j
      have e74 : μ 7 4 = cnt ν L 10 := hT.1
      refine lv_iload_n X.1 X.2.1 dX5_layAndApply_10 rfl (lv_at hl 2 rfl) ?_
      refine lv_aload_n X.1 X.2.1 dX5_layAndApply_11 rfl (lv_at hl 0 rfl) ?_
      refine m_get (ci := 5) (C := RX5) (T := TX5) (N := 10) X hM inA5 (by decide) (dE_desk G _) rfl 6 (by decide) kl_X5_46 rfl rfl dX5_layAndApply_12 ?_
      refine tn_ge (tgt := 46) X dX5_layAndApply_15 (by decide) (by omega) (by omega) (fun h15 => ?_) (fun h15 => ?_)
      · exact rV ⟨hds, h21, hT, by rw [show ν 0 6 = j by omega]; exact hrow⟩ X hM hS hret hlk dX5_layAndApply_46
      · exfalso; omega
    | succ k ih =>
      intro j μ hj hds h21 hT hrow ls H locs hM hS hl
      have e0 : μ 0 6 = ν 0 6 := by rw [hds.d]
      have ec : μ (22 + j) = ν (22 + j) := hds.c j
      have e74 : μ 7 4 = cnt ν L 10 := hT.1
      refine lv_iload_n X.1 X.2.1 dX5_layAndApply_10 rfl (lv_at hl 2 rfl) ?_
      refine lv_aload_n X.1 X.2.1 dX5_layAndApply_11 rfl (lv_at hl 0 rfl) ?_
      refine m_get (ci := 5) (C := RX5) (T := TX5) (N := 10) X hM inA5 (by decide) (dE_desk G _) rfl 6 (by decide) kl_X5_46 rfl rfl dX5_layAndApply_12 ?_
      refine tn_ge (tgt := 46) X dX5_layAndApply_15 (by decide) (by omega) (by omega) (fun h15 => ?_) (fun h15 => ?_)
      · exfalso; omega
      · refine lv_iload_n X.1 X.2.1 dX5_layAndApply_18 rfl (lv_at hl 1 rfl) ?_
        refine lv_iload_n X.1 X.2.1 dX5_layAndApply_19 rfl (lv_at hl 2 rfl) ?_
        refine kSI (As := [_, _]) X hM hS hl.1 (c_X5_contains hs (by omega)) kl_X5_249 mf_X5_contains ⟨Nat.le_of_ble_eq_true rfl, Nat.le_of_ble_eq_true rfl⟩ ⟨Nat.zero_le _, Nat.zero_le _⟩ rfl (Nat.le_of_ble_eq_true rfl) dX5_layAndApply_20 (fun r20 ν20 H locs hp20 hM hS => ?_)
        obtain ⟨rfl, e20⟩ := hp20
        replace e20 := e20.symm
        subst e20
        refine tn_eq0 (tgt := 40) X dX5_layAndApply_23 (by decide) (by have := bt_le st j; omega) (fun h23 => ?_) (fun h23 => ?_)
        · refine tn_inc (k := 2) (w := 1) X dX5_layAndApply_40 hl rfl (by decide) (by decide) rfl (fun ls hl => ?_)
          replace hl : lv_has ls 4 [(3, _), (0, _), (2, _)] := hl
          refine lv_goto (tgt := 10) X.1 X.2.1 dX5_layAndApply_43 (by decide) ?_
          have e : rsF ν L st (j + 1) = _ := if_neg (by omega)
          exact ih (j + 1) μ (by omega) hds h21 hT (by rw [e]; exact hrow) ls H locs hM hS (lv_sub hl [1, 2, 0] rfl)
        · refine lv_aload_n X.1 X.2.1 dX5_layAndApply_26 rfl (lv_at hl 0 rfl) ?_
          refine m_get (ci := 5) (C := RX5) (T := TX5) (N := 10) X hM inA5 (by decide) (dE_desk G _) rfl 3 (by decide) kl_X5_31 rfl rfl dX5_layAndApply_27 ?_
          refine lv_aload_n X.1 X.2.1 dX5_layAndApply_30 rfl (lv_at hl 0 rfl) ?_
          refine m_get (ci := 5) (C := RX5) (T := TX5) (N := 10) X hM inA5 (by decide) (dE_desk G _) rfl 1 (by decide) kl_X5_18 rfl rfl dX5_layAndApply_31 ?_
          refine lv_iload_n X.1 X.2.1 dX5_layAndApply_34 rfl (lv_at hl 2 rfl) ?_
          refine m_aald 1 rfl X hM (by decide) (dE_coupons G _) rfl (show j < 8 by omega) (by decide) dX5_layAndApply_35 ?_
          refine tn_ic (v := 0) X dX5_layAndApply_36 (by decide) ?_
          refine kNV (As := [_, _]) X hM hS hl.1 (c_X4_apply (r := 0) (show j < 8 by omega) (by decide) (by rw [ec]; exact hW.cs (by omega)) (by rw [e74]; exact h60) (fun i hi => by rw [e74] at hi; rw [(hT.2 i hi).2]; exact ct_lt hW hL i) (by rw [ec]; exact hW.v1 (by omega)) (by rw [ec]; exact hW.v0 (by omega)) (by rw [ec]; exact hW.k0 (by omega)) (fun i hi => by rw [e74] at hi; rw [hrow i hi]; exact rsF_le hW hL st j i)) (by decide) (dE_tray G _) rfl rfl kl_X5_265 mf_X4_apply ⟨Nat.le_of_ble_eq_true rfl, Nat.le_of_ble_eq_true rfl⟩ ⟨Nat.zero_le _, Nat.zero_le _⟩ rfl (Nat.le_of_ble_eq_true rfl) dX5_layAndApply_37 (fun ν37 H locs hp37 hM hS => ?_)
          refine tn_inc (k := 2) (w := 1) X dX5_layAndApply_40 hl rfl (by decide) (by decide) rfl (fun ls hl => ?_)
          replace hl : lv_has ls 4 [(3, _), (0, _), (2, _)] := hl
          refine lv_goto (tgt := 10) X.1 X.2.1 dX5_layAndApply_43 (by decide) ?_
          have e : rsF ν L st (j + 1) = _ := if_pos (by have := bt_le st j; omega)
          obtain ⟨g1, g2⟩ := hp37
          refine ih (j + 1) ν37 (by omega) (hds.trans (fun i hi => g1 i (by omega) (by omega))) (by rw [g1 21 (by decide) (by decide)]; exact h21) ⟨by rw [g1 7 (by decide) (by decide)]; exact hT.1, fun i hi => by rw [g1 8 (by decide) (by decide), g1 9 (by decide) (by decide)]; exact hT.2 i hi⟩ (fun i hi => ?_) ls H locs hM hS (lv_sub hl [1, 2, 0] rfl)
          rw [e, g2, e74, ec]
          exact apF_congr (fun i hi => (hT.2 i hi).2) hrow i hi
  obtain ⟨g1, g2, g3, g4⟩ := hp5
  exact Lp (ν 0 6) 0 _ (by omega) (fun i hi => g3 i (by omega) (by omega) (by omega) (by omega)) (g3 21 (by decide) (by decide) (by decide) (by decide)) ⟨g1, fun i hi => ⟨(g4 i hi).1, (g4 i hi).2.1⟩⟩ (fun i hi => (g4 i hi).2.2) ls _ _ hM hS (lv_sub hl [1, 3, 0] rfl)

set_option maxHeartbeats 4000000 in
set_option maxRecDepth 100000 in
theorem c_X5_goodsOf {l : Launch} {G : dG} {ν : Mm} {L st : Nat} (hW : WD ν) (hL : lotB L) (hs : st < 2 ^ 31) : cI l yX5_goodsOf cX5_goodsOf 3 (some .int) 5 G [.ref (ra G 0), .ref (ra G L), .int (nI st)] ν (fun r ν' => r = gdF ν L st ∧ dsk ν ν' ∧ ν' 21 = ν 21 ∧ TL ν L ν' ∧ ∀ j, j < cnt ν L 10 → ν' (11 + 0) j = rsF ν L st (ν 0 6) j) := by
  refine cI_of (by decide +kernel) (Nat.le_of_ble_eq_true rfl) ?_
  intro p e s m args below meth c ls X hM hret hlk hl
  have hS : dS G s.heap s.heap [] := va_S.rf
  refine lv_aload_n X.1 X.2.1 dX5_goodsOf_0 rfl (lv_at hl 0 rfl) ?_
  refine lv_aload_n X.1 X.2.1 dX5_goodsOf_1 rfl (lv_at hl 1 rfl) ?_
  refine lv_iload_n X.1 X.2.1 dX5_goodsOf_2 rfl (lv_at hl 2 rfl) ?_
  refine kVV (As := [_, _]) X hM hS hl.1 (c_X5_layAndApply hW hL hs) (by decide) (dE_desk G _) rfl rfl kl_X5_158 mf_X5_layAndApply ⟨Nat.le_of_ble_eq_true rfl, Nat.le_of_ble_eq_true rfl⟩ ⟨Nat.zero_le _, Nat.zero_le _⟩ rfl (Nat.le_of_ble_eq_true rfl) dX5_goodsOf_3 (fun ν3 H locs hp3 hM hS => ?_)
  refine lv_aload_n X.1 X.2.1 dX5_goodsOf_6 rfl (lv_at hl 0 rfl) ?_
  refine m_get (ci := 5) (C := RX5) (T := TX5) (N := 10) X hM inA5 (by decide) (dE_desk G _) rfl 3 (by decide) kl_X5_31 rfl rfl dX5_goodsOf_7 ?_
  refine tn_ic (v := 0) X dX5_goodsOf_10 (by decide) ?_
  refine kNI (As := [_]) X hM hS hl.1 (c_X4_restsInRow (r := 0) (by decide) (by rw [hp3.2.2.1.1]; exact hW.n60 hL)) (by decide) (dE_tray G _) rfl rfl kl_X5_269 mf_X4_restsInRow ⟨Nat.le_of_ble_eq_true rfl, Nat.le_of_ble_eq_true rfl⟩ ⟨Nat.zero_le _, Nat.zero_le _⟩ rfl (Nat.le_of_ble_eq_true rfl) dX5_goodsOf_11 (fun r11 ν11 H locs hp11 hM hS => ?_)
  obtain ⟨rfl, e11⟩ := hp11
  replace e11 := e11.symm
  subst e11
  exact rI ⟨by rw [hp3.2.2.1.1]; exact sm_congr hp3.2.2.2 _ (Nat.le_refl _), hp3⟩ X hM hS hret hlk dX5_goodsOf_14

set_option maxHeartbeats 4000000 in
set_option maxRecDepth 100000 in
theorem c_X5_extend_0 {l : Launch} {G : dG} {σ ν : Mm} {f : Nat → Nat} {st nx dp : Nat} (hd : dp = 8) (hσ : dsk σ ν) (hW : WD σ) (hs : st < 256) (hnx : nx ≤ 8) (hO : sOK ν) (hT : TL σ 1 ν) (hrow : ∀ j, j < cnt σ 1 10 → ν (11 + dp) j = f j) (hf : ∀ j, j < cnt σ 1 10 → f j ≤ 10000) : cV l yX5_extend cX5_extend 6 5 G [.ref (ra G 0), .int (nI st), .int (nI nx), .int (nI dp)] ν (fun ν' => exP dp ν ν' ∧ s3 ν' = exF σ (ν 21 0) (ν 21 1) 0 st nx f (s3 ν)) := by
  refine cV_of (by decide +kernel) (Nat.le_of_ble_eq_true rfl) ?_
  intro p e s m args below meth c ls X hM hret hlk hl
  have hS : dS G s.heap s.heap [] := va_S.rf
  have hWν : WD ν := hσ.WD hW
  have h60 := hW.n60 lotB_1
  have hsm : sm (ν (11 + dp)) (ν 7 4) = sm f (cnt σ 1 10) := sm_TL hT.1 hrow
  have hsb : sm f (cnt σ 1 10) ≤ 600000 := Nat.le_trans (sm_le hf) (Nat.mul_le_mul_right 10000 h60)
  have hfe : feF ν st (sm f (cnt σ 1 10)) ≤ 10000 := feF_le hWν _ _
  have hto : toF σ st f = sm f (cnt σ 1 10) + feF ν st (sm f (cnt σ 1 10)) := by rw [hσ.feF]; rfl
  have hnc := hW.nc
  refine lv_aload_n X.1 X.2.1 dX5_extend_0 rfl (lv_at hl 0 rfl) ?_
  refine m_get (ci := 5) (C := RX5) (T := TX5) (N := 10) X hM inA5 (by decide) (dE_desk G _) rfl 3 (by decide) kl_X5_31 rfl rfl dX5_extend_1 ?_
  refine lv_iload_n X.1 X.2.1 dX5_extend_4 rfl (lv_at hl 3 rfl) ?_
  refine kNI (As := [_]) X hM hS hl.1 (c_X4_restsInRow (by omega) (by rw [hT.1]; exact h60)) (by decide) (dE_tray G _) rfl rfl kl_X5_269 mf_X4_restsInRow ⟨Nat.le_of_ble_eq_true rfl, Nat.le_of_ble_eq_true rfl⟩ ⟨Nat.zero_le _, Nat.zero_le _⟩ rfl (Nat.le_of_ble_eq_true rfl) dX5_extend_5 (fun r5 ν5 H locs hp5 hM hS => ?_)
  obtain ⟨rfl, e5⟩ := hp5
  replace e5 := e5.symm
  subst e5
  rw [hsm]
  refine lv_istore X.1 X.2.1 dX5_extend_8 hl (by decide) rfl (fun ls hl => ?_)
  replace hl : lv_has ls 6 [(4, _), (0, _), (1, _), (2, _), (3, _)] := hl
  refine lv_aload_n X.1 X.2.1 dX5_extend_10 rfl (lv_at hl 1 rfl) ?_
  refine m_get (ci := 5) (C := RX5) (T := TX5) (N := 10) X hM inA5 (by decide) (dE_desk G _) rfl 4 (by decide) kl_X5_38 rfl rfl dX5_extend_11 ?_
  refine lv_iload_n X.1 X.2.1 dX5_extend_14 rfl (lv_at hl 2 rfl) ?_
  refine lv_iload X.1 X.2.1 dX5_extend_15 (lv_at hl 0 rfl) ?_
  refine lv_aload_n X.1 X.2.1 dX5_extend_17 rfl (lv_at hl 1 rfl) ?_
  refine lv_iload_n X.1 X.2.1 dX5_extend_18 rfl (lv_at hl 2 rfl) ?_
  refine lv_iload X.1 X.2.1 dX5_extend_19 (lv_at hl 0 rfl) ?_
  refine kVI (As := [_, _]) X hM hS hl.1 (c_X5_feeFor hWν (by omega) (by omega)) (by decide) (dE_desk G _) rfl rfl kl_X5_155 mf_X5_feeFor ⟨Nat.le_of_ble_eq_true rfl, Nat.le_of_ble_eq_true rfl⟩ ⟨Nat.zero_le _, Nat.zero_le _⟩ rfl (Nat.le_of_ble_eq_true rfl) dX5_extend_21 (fun r21 ν21 H locs hp21 hM hS => ?_)
  obtain ⟨rfl, e21⟩ := hp21
  replace e21 := e21.symm
  subst e21
  refine tn_add X dX5_extend_24 ?_
  refine kNV (As := [_, _]) X hM hS hl.1 (c_X3_offer hs hO.2.1 (by omega) hO.2.2.1 hO.2.2.2) (by decide) (dE_search G _) rfl rfl kl_X5_289 mf_X3_offer ⟨Nat.le_of_ble_eq_true rfl, Nat.le_of_ble_eq_true rfl⟩ ⟨Nat.zero_le _, Nat.zero_le _⟩ rfl (Nat.le_of_ble_eq_true rfl) dX5_extend_25 (fun ν25 H locs hp25 hM hS => ?_)
  replace hp25 := hp25.symm
  subst hp25
  refine lv_iload_n X.1 X.2.1 dX5_extend_28 rfl (lv_at hl 4 rfl) ?_
  refine tn_bi (v := 8) X dX5_extend_29 (by decide) ?_
  refine tn_lt (tgt := 35) X dX5_extend_31 (by decide) (by omega) (by decide) (fun h31 => ?_) (fun h31 => ?_)
  · exfalso; omega
  · exact rV ⟨by rw [← hto]; exact exP_offer hO hs (by omega), by rw [offer_3, ← hto]; rfl⟩ X hM hS hret hlk dX5_extend_34

set_option maxHeartbeats 4000000 in
set_option maxRecDepth 100000 in
theorem c_X5_extend_s {l : Launch} {G : dG} {σ ν : Mm} {f : Nat → Nat} {fu st nx dp : Nat} (ihe : ∀ {ν : Mm} {f : Nat → Nat} {st nx dp : Nat}, dp + fu = 8 → dsk σ ν → WD σ → st < 256 → nx ≤ 8 → sOK ν → TL σ 1 ν → (∀ j, j < cnt σ 1 10 → ν (11 + dp) j = f j) → (∀ j, j < cnt σ 1 10 → f j ≤ 10000) → cV l yX5_extend cX5_extend 6 (5 + fu) G [.ref (ra G 0), .int (nI st), .int (nI nx), .int (nI dp)] ν (fun ν' => exP dp ν ν' ∧ s3 ν' = exF σ (ν 21 0) (ν 21 1) fu st nx f (s3 ν))) (hd : dp + (fu + 1) = 8) (hσ : dsk σ ν) (hW : WD σ) (hs : st < 256) (hnx : nx ≤ 8) (hO : sOK ν) (hT : TL σ 1 ν) (hrow : ∀ j, j < cnt σ 1 10 → ν (11 + dp) j = f j) (hf : ∀ j, j < cnt σ 1 10 → f j ≤ 10000) : cV l yX5_extend cX5_extend 6 (5 + (fu + 1)) G [.ref (ra G 0), .int (nI st), .int (nI nx), .int (nI dp)] ν (fun ν' => exP dp ν ν' ∧ s3 ν' = exF σ (ν 21 0) (ν 21 1) (fu + 1) st nx f (s3 ν)) := by
  refine cV_of (by decide +kernel) (Nat.le_of_ble_eq_true rfl) ?_
  intro p e s m args below meth c ls X hM hret hlk hl
  have hS : dS G s.heap s.heap [] := va_S.rf
  have hWν : WD ν := hσ.WD hW
  have h60 := hW.n60 lotB_1
  have hsm : sm (ν (11 + dp)) (ν 7 4) = sm f (cnt σ 1 10) := sm_TL hT.1 hrow
  have hsb : sm f (cnt σ 1 10) ≤ 600000 := Nat.le_trans (sm_le hf) (Nat.mul_le_mul_right 10000 h60)
  have hfe : feF ν st (sm f (cnt σ 1 10)) ≤ 10000 := feF_le hWν _ _
  have hto : toF σ st f = sm f (cnt σ 1 10) + feF ν st (sm f (cnt σ 1 10)) := by rw [hσ.feF]; rfl
  have hnc := hW.nc
  refine lv_aload_n X.1 X.2.1 dX5_extend_0 rfl (lv_at hl 0 rfl) ?_
  refine m_get (ci := 5) (C := RX5) (T := TX5) (N := 10) X hM inA5 (by decide) (dE_desk G _) rfl 3 (by decide) kl_X5_31 rfl rfl dX5_extend_1 ?_
  refine lv_iload_n X.1 X.2.1 dX5_extend_4 rfl (lv_at hl 3 rfl) ?_
  refine kNI (As := [_]) X hM hS hl.1 (c_X4_restsInRow (by omega) (by rw [hT.1]; exact h60)) (by decide) (dE_tray G _) rfl rfl kl_X5_269 mf_X4_restsInRow ⟨by show _ ≤ 5 + (fu + 1); omega, by show _ ≤ 40 * (5 + (fu + 1)); omega⟩ ⟨Nat.zero_le _, Nat.zero_le _⟩ rfl (Nat.le_of_ble_eq_true rfl) dX5_extend_5 (fun r5 ν5 H locs hp5 hM hS => ?_)
  obtain ⟨rfl, e5⟩ := hp5
  replace e5 := e5.symm
  subst e5
  rw [hsm]
  refine lv_istore X.1 X.2.1 dX5_extend_8 hl (by decide) rfl (fun ls hl => ?_)
  replace hl : lv_has ls 6 [(4, _), (0, _), (1, _), (2, _), (3, _)] := hl
  refine lv_aload_n X.1 X.2.1 dX5_extend_10 rfl (lv_at hl 1 rfl) ?_
  refine m_get (ci := 5) (C := RX5) (T := TX5) (N := 10) X hM inA5 (by decide) (dE_desk G _) rfl 4 (by decide) kl_X5_38 rfl rfl dX5_extend_11 ?_
  refine lv_iload_n X.1 X.2.1 dX5_extend_14 rfl (lv_at hl 2 rfl) ?_
  refine lv_iload X.1 X.2.1 dX5_extend_15 (lv_at hl 0 rfl) ?_
  refine lv_aload_n X.1 X.2.1 dX5_extend_17 rfl (lv_at hl 1 rfl) ?_
  refine lv_iload_n X.1 X.2.1 dX5_extend_18 rfl (lv_at hl 2 rfl) ?_
  refine lv_iload X.1 X.2.1 dX5_extend_19 (lv_at hl 0 rfl) ?_
  refine kVI (As := [_, _]) X hM hS hl.1 (c_X5_feeFor hWν (by omega) (by omega)) (by decide) (dE_desk G _) rfl rfl kl_X5_155 mf_X5_feeFor ⟨by show _ ≤ 5 + (fu + 1); omega, by show _ ≤ 40 * (5 + (fu + 1)); omega⟩ ⟨Nat.zero_le _, Nat.zero_le _⟩ rfl (Nat.le_of_ble_eq_true rfl) dX5_extend_21 (fun r21 ν21 H locs hp21 hM hS => ?_)
  obtain ⟨rfl, e21⟩ := hp21
  replace e21 := e21.symm
  subst e21
  refine tn_add X dX5_extend_24 ?_
  refine kNV (As := [_, _]) X hM hS hl.1 (c_X3_offer hs hO.2.1 (by omega) hO.2.2.1 hO.2.2.2) (by decide) (dE_search G _) rfl rfl kl_X5_289 mf_X3_offer ⟨by show _ ≤ 5 + (fu + 1); omega, by show _ ≤ 40 * (5 + (fu + 1)); omega⟩ ⟨Nat.zero_le _, Nat.zero_le _⟩ rfl (Nat.le_of_ble_eq_true rfl) dX5_extend_25 (fun ν25 H locs hp25 hM hS => ?_)
  replace hp25 := hp25.symm
  subst hp25
  refine lv_iload_n X.1 X.2.1 dX5_extend_28 rfl (lv_at hl 4 rfl) ?_
  refine tn_bi (v := 8) X dX5_extend_29 (by decide) ?_
  refine tn_lt (tgt := 35) X dX5_extend_31 (by decide) (by omega) (by decide) (fun h31 => ?_) (fun h31 => ?_)
  · refine lv_iload_n X.1 X.2.1 dX5_extend_35 rfl (lv_at hl 3 rfl) ?_
    refine lv_istore X.1 X.2.1 dX5_extend_36 hl (by decide) rfl (fun ls hl => ?_)
    replace hl : lv_has ls 6 [(5, _), (4, _), (0, _), (1, _), (2, _), (3, _)] := hl
    have hof := exP_offer (dp := dp) (st := st) (pr := sm f (cnt σ 1 10) + feF ν st (sm f (cnt σ 1 10))) hO hs (by omega)
    have Lp : ∀ (k : Nat) (i : Nat) (μ : Mm), i + k = σ 0 6 - nx → exP dp ν μ → s3 μ = itr (fun k S => if bt (ν 21 1) k = 1 ∧ gf σ k st = true then exF σ (ν 21 0) (ν 21 1) fu (st ||| 2 ^ k) (k + 1) (apK σ 1 k f) S else S) nx i (of3 (ν 21 0) st (toF σ st f) (s3 ν)) → ∀ (ls : Array Slot) (H : Heap) (locs : List Loc), dM G μ H → dS G s.heap H locs → lv_has ls 6 [(0, .ref (ra G 0)), (1, .int (nI st)), (3, .int (nI dp)), (5, .int (nI (nx + i)))] → W p l e (rmD (5 + (fu + 1))) s m args below meth c H locs 0 0 (MQ below (dQv G s.heap.size (fun ν' => exP dp ν ν' ∧ s3 ν' = exF σ (ν 21 0) (ν 21 1) (fu + 1) st nx f (s3 ν))) args s 0 0 (dA G s.heap.size)) (F0 m 38 ls []) := by
      intro k
      induction k with
      | zero =>
        intro i μ hi hex h3 ls H locs hM hS hl
        have hds : dsk σ μ := hσ.trans hex.dsk
        have e06 : μ 0 6 = σ 0 6 := by rw [hds.d]
        have hTμ : TL σ 1 μ := ⟨by rw [hex.2.2.2 7 (by decide) (by decide) (by omega)]; exact hT.1, fun j hj => by rw [hex.2.2.2 8 (by decide) (by decide) (by omega), hex.2.2.2 9 (by decide) (by decide) (by omega)]; exact hT.2 j hj⟩
        have hrμ : ∀ j, j < cnt σ 1 10 → μ (11 + dp) j = f j := fun j hj => by rw [hex.2.2.2 (11 + dp) (by omega) (by omega) (by omega)]; exact hrow j hj
        have h74 : μ 7 4 = cnt σ 1 10 := hTμ.1
        have hWμ : WD μ := hds.WD hW
        refine lv_iload X.1 X.2.1 dX5_extend_38 (lv_at hl 3 rfl) ?_
        refine lv_aload_n X.1 X.2.1 dX5_extend_40 rfl (lv_at hl 0 rfl) ?_
        refine m_get (ci := 5) (C := RX5) (T := TX5) (N := 10) X hM inA5 (by decide) (dE_desk G _) rfl 6 (by decide) kl_X5_46 rfl rfl dX5_extend_41 ?_
        refine tn_ge (tgt := 123) X dX5_extend_44 (by decide) (by omega) (by omega) (fun h44 => ?_) (fun h44 => ?_)
        · exact rV ⟨hex, by rw [h3, show i = σ 0 6 - nx by omega]; rfl⟩ X hM hS hret hlk dX5_extend_123
        · exfalso; omega
      | succ k ih =>
        intro i μ hi hex h3 ls H locs hM hS hl
        have hds : dsk σ μ := hσ.trans hex.dsk
        have e06 : μ 0 6 = σ 0 6 := by rw [hds.d]
        have hTμ : TL σ 1 μ := ⟨by rw [hex.2.2.2 7 (by decide) (by decide) (by omega)]; exact hT.1, fun j hj => by rw [hex.2.2.2 8 (by decide) (by decide) (by omega), hex.2.2.2 9 (by decide) (by decide) (by omega)]; exact hT.2 j hj⟩
        have hrμ : ∀ j, j < cnt σ 1 10 → μ (11 + dp) j = f j := fun j hj => by rw [hex.2.2.2 (11 + dp) (by omega) (by omega) (by omega)]; exact hrow j hj
        have h74 : μ 7 4 = cnt σ 1 10 := hTμ.1
        have hWμ : WD μ := hds.WD hW
        refine lv_iload X.1 X.2.1 dX5_extend_38 (lv_at hl 3 rfl) ?_
        refine lv_aload_n X.1 X.2.1 dX5_extend_40 rfl (lv_at hl 0 rfl) ?_
        refine m_get (ci := 5) (C := RX5) (T := TX5) (N := 10) X hM inA5 (by decide) (dE_desk G _) rfl 6 (by decide) kl_X5_46 rfl rfl dX5_extend_41 ?_
        refine tn_ge (tgt := 123) X dX5_extend_44 (by decide) (by omega) (by omega) (fun h44 => ?_) (fun h44 => ?_)
        · exfalso; omega
        · refine lv_aload_n X.1 X.2.1 dX5_extend_47 rfl (lv_at hl 0 rfl) ?_
          refine m_get (ci := 5) (C := RX5) (T := TX5) (N := 10) X hM inA5 (by decide) (dE_desk G _) rfl 4 (by decide) kl_X5_38 rfl rfl dX5_extend_48 ?_
          refine m_getN (ci := 3) (C := RX3) (T := TX3) (N := 5) X hM inA3 (by decide) (dE_search G _) rfl 1 (by decide) kl_X5_292 rfl rfl dX5_extend_51 ?_
          refine lv_iload X.1 X.2.1 dX5_extend_54 (lv_at hl 3 rfl) ?_
          refine kSI (As := [_, _]) X hM hS hl.1 (c_X5_contains hex.2.2.1.1 (by omega)) kl_X5_249 mf_X5_contains ⟨by show _ ≤ 5 + (fu + 1); omega, by show _ ≤ 40 * (5 + (fu + 1)); omega⟩ ⟨Nat.zero_le _, Nat.zero_le _⟩ rfl (Nat.le_of_ble_eq_true rfl) dX5_extend_56 (fun r56 ν56 H locs hp56 hM hS => ?_)
          obtain ⟨rfl, e56⟩ := hp56
          replace e56 := e56.symm
          subst e56
          refine tn_eq0 (tgt := 117) X dX5_extend_59 (by decide) (by have := bt_le (μ 21 1) (nx + i); omega) (fun h59 => ?_) (fun h59 => ?_)
          · refine tn_inc (k := 3) (w := 1) X dX5_extend_117 hl rfl (by decide) (by decide) rfl (fun ls hl => ?_)
            replace hl : lv_has ls 6 [(5, _), (0, _), (1, _), (3, _)] := hl
            refine lv_goto (tgt := 38) X.1 X.2.1 dX5_extend_120 (by decide) ?_
            have hne : ¬ (bt (ν 21 1) (nx + i) = 1 ∧ gf σ (nx + i) st = true) := fun hh => by have := hh.1; rw [← hex.2.1] at this; omega
            exact ih (i + 1) μ (by omega) hex (by rw [h3]; exact (if_neg hne).symm) ls H locs hM hS (lv_sub hl [1, 2, 3, 0] rfl)
          · refine lv_aload_n X.1 X.2.1 dX5_extend_62 rfl (lv_at hl 0 rfl) ?_
            refine lv_iload X.1 X.2.1 dX5_extend_63 (lv_at hl 3 rfl) ?_
            refine lv_iload_n X.1 X.2.1 dX5_extend_65 rfl (lv_at hl 1 rfl) ?_
            refine kVI (As := [_, _]) X hM hS hl.1 (c_X5_isGroupFree hWμ (by omega) (by omega)) (by decide) (dE_desk G _) rfl rfl kl_X5_252 mf_X5_isGroupFree ⟨by show _ ≤ 5 + (fu + 1); omega, by show _ ≤ 40 * (5 + (fu + 1)); omega⟩ ⟨Nat.zero_le _, Nat.zero_le _⟩ rfl (Nat.le_of_ble_eq_true rfl) dX5_extend_66 (fun r66 ν66 H locs hp66 hM hS => ?_)
            obtain ⟨rfl, e66⟩ := hp66
            replace e66 := e66.symm
            subst e66
            refine tn_eq0 (tgt := 117) X dX5_extend_69 (by decide) (by split <;> decide) (fun h69 => ?_) (fun h69 => ?_)
            · refine tn_inc (k := 3) (w := 1) X dX5_extend_117 hl rfl (by decide) (by decide) rfl (fun ls hl => ?_)
              replace hl : lv_has ls 6 [(5, _), (0, _), (1, _), (3, _)] := hl
              refine lv_goto (tgt := 38) X.1 X.2.1 dX5_extend_120 (by decide) ?_
              have hne : ¬ (bt (ν 21 1) (nx + i) = 1 ∧ gf σ (nx + i) st = true) := fun hh => ite0 h69 (by rw [hds.gf]; exact hh.2)
              exact ih (i + 1) μ (by omega) hex (by rw [h3]; exact (if_neg hne).symm) ls H locs hM hS (lv_sub hl [1, 2, 3, 0] rfl)
            · refine lv_aload_n X.1 X.2.1 dX5_extend_72 rfl (lv_at hl 0 rfl) ?_
              refine m_get (ci := 5) (C := RX5) (T := TX5) (N := 10) X hM inA5 (by decide) (dE_desk G _) rfl 3 (by decide) kl_X5_31 rfl rfl dX5_extend_73 ?_
              refine lv_iload_n X.1 X.2.1 dX5_extend_76 rfl (lv_at hl 2 rfl) ?_
              refine lv_iload_n X.1 X.2.1 dX5_extend_77 rfl (lv_at hl 2 rfl) ?_
              refine tn_ic (v := 1) X dX5_extend_78 (by decide) ?_
              refine tn_add X dX5_extend_79 ?_
              refine kNV (As := [_, _]) X hM hS hl.1 (c_X4_copyRow (by omega) (by omega) (by rw [h74]; exact h60)) (by decide) (dE_tray G _) rfl rfl kl_X5_295 mf_X4_copyRow ⟨by show _ ≤ 5 + (fu + 1); omega, by show _ ≤ 40 * (5 + (fu + 1)); omega⟩ ⟨Nat.zero_le _, Nat.zero_le _⟩ rfl (Nat.le_of_ble_eq_true rfl) dX5_extend_80 (fun ν80 H locs hp80 hM hS => ?_)
              replace hp80 := hp80.symm
              subst hp80
              have eC : (va_up μ (11 + (dp + 1)) (fun a => if a < μ 7 4 then μ (11 + dp) a else μ (11 + (dp + 1)) a)) (22 + (nx + i)) = σ (22 + (nx + i)) := by rw [va_up_ne _ _ (by omega)]; exact hds.c _
              have e7 : (va_up μ (11 + (dp + 1)) (fun a => if a < μ 7 4 then μ (11 + dp) a else μ (11 + (dp + 1)) a)) 7 = μ 7 := va_up_ne _ _ (by omega)
              have e9 : (va_up μ (11 + (dp + 1)) (fun a => if a < μ 7 4 then μ (11 + dp) a else μ (11 + (dp + 1)) a)) 9 = μ 9 := va_up_ne _ _ (by omega)
              have eR : (va_up μ (11 + (dp + 1)) (fun a => if a < μ 7 4 then μ (11 + dp) a else μ (11 + (dp + 1)) a)) (11 + (dp + 1)) = (fun a => if a < μ 7 4 then μ (11 + dp) a else μ (11 + (dp + 1)) a) := va_up_self _ _ _
              refine lv_aload_n X.1 X.2.1 dX5_extend_83 rfl (lv_at hl 0 rfl) ?_
              refine m_get (ci := 5) (C := RX5) (T := TX5) (N := 10) X hM inA5 (by decide) (dE_desk G _) rfl 3 (by decide) kl_X5_31 rfl rfl dX5_extend_84 ?_
              refine lv_aload_n X.1 X.2.1 dX5_extend_87 rfl (lv_at hl 0 rfl) ?_
              refine m_get (ci := 5) (C := RX5) (T := TX5) (N := 10) X hM inA5 (by decide) (dE_desk G _) rfl 1 (by decide) kl_X5_18 rfl rfl dX5_extend_88 ?_
              refine lv_iload X.1 X.2.1 dX5_extend_91 (lv_at hl 3 rfl) ?_
              refine m_aald 1 rfl X hM (by decide) (dE_coupons G _) rfl (show nx + i < 8 by omega) (by decide) dX5_extend_93 ?_
              refine lv_iload_n X.1 X.2.1 dX5_extend_94 rfl (lv_at hl 2 rfl) ?_
              refine tn_ic (v := 1) X dX5_extend_95 (by decide) ?_
              refine tn_add X dX5_extend_96 ?_
              refine kNV (As := [_, _]) X hM hS hl.1 (c_X4_apply (show nx + i < 8 by omega) (by omega) (by rw [eC]; exact hW.cs (by omega)) (by rw [e7, h74]; exact h60) (fun z hz => by rw [e7, h74] at hz; rw [e9, (hTμ.2 z hz).2]; exact ct_lt hW lotB_1 z) (by rw [eC]; exact hW.v1 (by omega)) (by rw [eC]; exact hW.v0 (by omega)) (by rw [eC]; exact hW.k0 (by omega)) (fun z hz => by rw [e7, h74] at hz; rw [eR]; show (if z < μ 7 4 then μ (11 + dp) z else μ (11 + (dp + 1)) z) ≤ 10000; rw [if_pos (by rw [h74]; exact hz), hrμ z hz]; exact hf z hz)) (by decide) (dE_tray G _) rfl rfl kl_X5_265 mf_X4_apply ⟨by show _ ≤ 5 + (fu + 1); omega, by show _ ≤ 40 * (5 + (fu + 1)); omega⟩ ⟨Nat.zero_le _, Nat.zero_le _⟩ rfl (Nat.le_of_ble_eq_true rfl) dX5_extend_97 (fun ν97 H locs hp97 hM hS => ?_)
              obtain ⟨ho, hdsκ, hTκ, hrκ⟩ := ex_down hds (by omega) hTμ hrμ hp97.1 hp97.2
              have e210 : ν97 21 0 = ν 21 0 := by rw [ho 21 (by decide) (by omega)]; exact hex.1
              have e211 : ν97 21 1 = ν 21 1 := by rw [ho 21 (by decide) (by omega)]; exact hex.2.1
              have e213 : s3 ν97 = s3 μ := by unfold s3; rw [ho 21 (by decide) (by omega)]
              have hOκ : sOK ν97 := by unfold sOK; rw [ho 21 (by decide) (by omega)]; exact hex.2.2.1
              refine lv_aload_n X.1 X.2.1 dX5_extend_100 rfl (lv_at hl 0 rfl) ?_
              refine lv_iload_n X.1 X.2.1 dX5_extend_101 rfl (lv_at hl 1 rfl) ?_
              refine tn_ic (v := 1) X dX5_extend_102 (by decide) ?_
              refine lv_iload X.1 X.2.1 dX5_extend_103 (lv_at hl 3 rfl) ?_
              refine tn_shl1 X dX5_extend_105 (by omega) ?_
              refine tn_or X dX5_extend_106 ?_
              refine lv_iload X.1 X.2.1 dX5_extend_107 (lv_at hl 3 rfl) ?_
              refine tn_ic (v := 1) X dX5_extend_109 (by decide) ?_
              refine tn_add X dX5_extend_110 ?_
              refine lv_iload_n X.1 X.2.1 dX5_extend_111 rfl (lv_at hl 2 rfl) ?_
              refine tn_ic (v := 1) X dX5_extend_112 (by decide) ?_
              refine tn_add X dX5_extend_113 ?_
              refine kSV (As := [_, _, _, _]) X hM hS hl.1 (ihe (f := apK σ 1 (nx + i) f) (by omega) hdsκ hW (or_lt hs (by omega)) (by omega) hOκ hTκ hrκ (fun z hz => Nat.le_trans (apF_le z) (hf z hz))) kl_X5_285 mf_X5_extend ⟨by show _ ≤ 5 + (fu + 1); omega, by show _ ≤ 40 * (5 + (fu + 1)); omega⟩ ⟨Nat.zero_le _, Nat.zero_le _⟩ rfl (Nat.le_of_ble_eq_true rfl) dX5_extend_114 (fun ν114 H locs hp114 hM hS => ?_)
              refine tn_inc (k := 3) (w := 1) X dX5_extend_117 hl rfl (by decide) (by decide) rfl (fun ls hl => ?_)
              replace hl : lv_has ls 6 [(5, _), (0, _), (1, _), (3, _)] := hl
              refine lv_goto (tgt := 38) X.1 X.2.1 dX5_extend_120 (by decide) ?_
              have hye : bt (ν 21 1) (nx + i) = 1 ∧ gf σ (nx + i) st = true := ⟨by have := bt_le (μ 21 1) (nx + i); rw [← hex.2.1]; omega, by rw [← hds.gf]; exact ite1 h69⟩
              obtain ⟨q1, q2⟩ := hp114
              refine ih (i + 1) ν114 (by omega) (hex.trans ⟨?_, ?_, q1.2.2.1, fun z a b c => ?_⟩) ?_ ls H locs hM hS (lv_sub hl [1, 2, 3, 0] rfl)
              · rw [q1.1, ho 21 (by decide) (by omega)]
              · rw [q1.2.1, ho 21 (by decide) (by omega)]
              · rw [q1.2.2.2 z a b (by omega)]; exact ho z b (by omega)
              · rw [q2, e210, e211, e213, h3]; exact (if_pos hye).symm
    exact Lp (σ 0 6 - nx) 0 _ (by omega) hof (by rw [offer_3, ← hto]; rfl) ls _ _ hM hS (lv_sub hl [2, 3, 5, 0] rfl)
  · exfalso; omega

theorem c_X5_extend {l : Launch} {G : dG} {σ : Mm} (fu : Nat) : ∀ {ν : Mm} {f : Nat → Nat} {st nx dp : Nat}, dp + fu = 8 → dsk σ ν → WD σ → st < 256 → nx ≤ 8 → sOK ν → TL σ 1 ν → (∀ j, j < cnt σ 1 10 → ν (11 + dp) j = f j) → (∀ j, j < cnt σ 1 10 → f j ≤ 10000) → cV l yX5_extend cX5_extend 6 (5 + fu) G [.ref (ra G 0), .int (nI st), .int (nI nx), .int (nI dp)] ν (fun ν' => exP dp ν ν' ∧ s3 ν' = exF σ (ν 21 0) (ν 21 1) fu st nx f (s3 ν)) := by
  induction fu with
  | zero =>
    intro ν f st nx dp hd hσ hW hs hnx hO hT hrow hf
    exact c_X5_extend_0 hd hσ hW hs hnx hO hT hrow hf
  | succ fu ih =>
    intro ν f st nx dp hd hσ hW hs hnx hO hT hrow hf
    exact c_X5_extend_s ih hd hσ hW hs hnx hO hT hrow hf
