/-! ===== the law behind its build ===== -/
theorem bOK.dsk {m c : Nat} {ν μ : Mm} (h : bOK m c ν) (hd : dsk ν μ) : bOK m c μ := ⟨hd.WD h.1, by rw [hd.d]; exact h.2.1, by rw [hd.d]; exact h.2.2.1, by rw [hd.d]; exact h.2.2.2.1, fun i hi => by rw [hd 4 (by omega)]; exact h.2.2.2.2 i hi⟩
theorem oOK.dsk {m fe : Nat} {ν μ : Mm} (h : oOK m fe ν) (hd : dsk ν μ) : oOK m fe μ := ⟨hd.WD h.1, by rw [hd.d]; exact h.2.1, by rw [hd.d]; exact h.2.2.1, fun i hi h10 => by rw [hd 34 (by omega)]; exact h.2.2.2.1 i hi h10, by rw [hd 30 (by omega)]; exact h.2.2.2.2.1, fun h0 => by rw [hd 30 (by omega)]; exact h.2.2.2.2.2 (by rw [← hd.cnt (lotB_o (k := 0) (by decide)) 10]; exact h0)⟩
theorem toT_eq (ν : Mm) (st : Nat) : toT ν st = gdF ν 1 st + feF ν st (gdF ν 1 st) := rfl
theorem dsk.toT {ν μ : Mm} (h : dsk ν μ) (st : Nat) : toT μ st = toT ν st := by rw [toT_eq, toT_eq, h.gdF lotB_1, h.feF]
theorem oOK.b {m fe : Nat} {ν : Mm} (h : oOK m fe ν) : ν 30 1 < 256 ∧ ν 30 2 ≤ 10000 ∧ ν 30 3 ≤ 600000 ∧ cnt ν 31 10 ≤ 60 := ⟨(h.1.2.2.1 0 (by decide)).1, (h.1.2.2.1 0 (by decide)).2.1, (h.1.2.2.1 0 (by decide)).2.2, h.1.n60 (lotB_o (k := 0) (by decide))⟩
theorem cA0 (m a : Nat) : cntA m a 0 = m := (va_up_ne _ _ (by decide)).trans (va_up_self _ _ _)
theorem cA1 (m a : Nat) : cntA m a 1 = a := va_up_self _ _ _
set_option maxHeartbeats 8000000 in
set_option maxRecDepth 100000 in
theorem t_306 {p : Program} {l : Launch} {e : Env} {s : State} {m : MethodId} {args : Array Value} {below : List Frame} {meth : Method} {c : Code} {Q : State → Prop} {G : dG} {b C many all : Nat} (X : dC p s m args c code 17 RL G) (hX : hasX b s) (hb : b < G.2.2) (hm1 : 1 ≤ many) (hm5 : many ≤ 5) (ha5 : all ≤ 5) (hfin : ∀ (pc : Nat) (H : Heap) (ls : Array Slot) (locs : List Loc), decode code pc = .ok (.ireturn, 1) → pS G s.heap H locs → W p l e room_1 s m args below meth c H locs 600086 7301442 Q (F0 m pc ls [.int (nI 1)])) : ∀ (k time back fee goods : Nat) (ν : Mm), time + k ≤ 60 → oOK many fee ν → cnt ν 31 10 = k → back + ν 30 3 = goods → goods ≤ 600000 → ∀ (ls : Array Slot) (H : Heap) (locs : List Loc), xM G ν [(C, aI G 2 (cntA many all))] H → pS G s.heap H locs → lv_has ls 17 [(12, .int (nI time)), (11, .int (nI k)), (10, .int (nI back)), (9, .int (nI fee)), (8, .int (nI goods)), (4, .ref C), (1, .ref (ra G 0)), (0, .ref b)] → W p l e room_1 s m args below meth c H locs 600086 7301442 Q (F0 m 306 ls []) := by
  intro k
  induction k with
  | zero =>
    intro time back fee goods ν ht hO hc hbk hg ls H locs hM hS hl
    have hz := hO.2.2.2.2.2 hc
    have hf := hO.2.2.2.2.1
    have hp := pin_cnt (cs := 255) hc
    have hbd := hO.b
    refine lv_iload X.1 X.2.1 dL_law_306 (lv_at hl 1 rfl) ?_
    refine tn_le0 (tgt := 459) X dL_law_308 (by decide) (by omega) (fun h308 => ?_) (fun h308 => ?_)
    · refine lv_iload X.1 X.2.1 dL_law_459 (lv_at hl 2 rfl) ?_
      refine lv_iload X.1 X.2.1 dL_law_461 (lv_at hl 4 rfl) ?_
      refine tn_ne (tgt := 508) X dL_law_463 (by decide) (by omega) (by omega) (fun h463 => ?_) (fun h463 => ?_)
      · exfalso; omega
      · refine lv_aload_n X.1 X.2.1 dL_law_466 rfl (lv_at hl 6 rfl) ?_
        refine tn_ic (v := 0) X dL_law_467 (by decide) ?_
        refine tn_ic (v := 0) X dL_law_468 (by decide) ?_
        refine kLD (As := [_, _]) X hM hS hl.1 (c_X5_order hO.1 (by rw [hO.2.2.1]; decide) (by decide)) rfl kl_L_89 mf_X5_order ⟨Nat.le_of_ble_eq_true rfl, Nat.le_of_ble_eq_true rfl⟩ ⟨Nat.le_refl _, Nat.le_refl _⟩ rfl (Nat.le_of_ble_eq_true rfl) dL_law_469 (fun r469 ν469 H locs hp469 hM hS => ?_)
        obtain ⟨rfl, e469⟩ := hp469
        replace e469 := e469.symm
        subst e469
        refine tn_as (show _ = 0 from hz.1) ?_
        refine tn_ne0 (tgt := 508) X dL_law_472 (by decide) (by omega) (fun h472 => ?_) (fun h472 => ?_)
        · exact absurd rfl h472
        · refine lv_aload_n X.1 X.2.1 dL_law_475 rfl (lv_at hl 6 rfl) ?_
          refine tn_ic (v := 0) X dL_law_476 (by decide) ?_
          refine tn_ic (v := 1) X dL_law_477 (by decide) ?_
          refine kLD (As := [_, _]) X hM hS hl.1 (c_X5_order hO.1 (by rw [hO.2.2.1]; decide) (by decide)) rfl kl_L_89 mf_X5_order ⟨Nat.le_of_ble_eq_true rfl, Nat.le_of_ble_eq_true rfl⟩ ⟨Nat.le_refl _, Nat.le_refl _⟩ rfl (Nat.le_of_ble_eq_true rfl) dL_law_478 (fun r478 ν478 H locs hp478 hM hS => ?_)
          obtain ⟨rfl, e478⟩ := hp478
          replace e478 := e478.symm
          subst e478
          refine tn_as (show _ = fee from hf) ?_
          refine lv_iload X.1 X.2.1 dL_law_481 (lv_at hl 3 rfl) ?_
          refine tn_ne (tgt := 508) X dL_law_483 (by decide) (by omega) (by omega) (fun h483 => ?_) (fun h483 => ?_)
          · exact absurd rfl h483
          · refine lv_aload_n X.1 X.2.1 dL_law_486 rfl (lv_at hl 6 rfl) ?_
            refine tn_ic (v := 0) X dL_law_487 (by decide) ?_
            refine tn_ic (v := 2) X dL_law_488 (by decide) ?_
            refine kLD (As := [_, _]) X hM hS hl.1 (c_X5_order hO.1 (by rw [hO.2.2.1]; decide) (by decide)) rfl kl_L_89 mf_X5_order ⟨Nat.le_of_ble_eq_true rfl, Nat.le_of_ble_eq_true rfl⟩ ⟨Nat.le_refl _, Nat.le_refl _⟩ rfl (Nat.le_of_ble_eq_true rfl) dL_law_489 (fun r489 ν489 H locs hp489 hM hS => ?_)
            obtain ⟨rfl, e489⟩ := hp489
            replace e489 := e489.symm
            subst e489
            refine tn_as (show _ = 0 from hz.2) ?_
            refine tn_ne0 (tgt := 508) X dL_law_492 (by decide) (by omega) (fun h492 => ?_) (fun h492 => ?_)
            · exact absurd rfl h492
            · refine lv_aload_n X.1 X.2.1 dL_law_495 rfl (lv_at hl 6 rfl) ?_
              refine tn_ic (v := 0) X dL_law_496 (by decide) ?_
              refine tn_ic (v := 4) X dL_law_497 (by decide) ?_
              refine kLD (As := [_, _]) X hM hS hl.1 (c_X5_order hO.1 (by rw [hO.2.2.1]; decide) (by decide)) rfl kl_L_89 mf_X5_order ⟨Nat.le_of_ble_eq_true rfl, Nat.le_of_ble_eq_true rfl⟩ ⟨Nat.le_refl _, Nat.le_refl _⟩ rfl (Nat.le_of_ble_eq_true rfl) dL_law_498 (fun r498 ν498 H locs hp498 hM hS => ?_)
              obtain ⟨rfl, e498⟩ := hp498
              replace e498 := e498.symm
              subst e498
              refine tn_as (show _ = 0 from hp) ?_
              refine tn_ne0 (tgt := 508) X dL_law_501 (by decide) (by omega) (fun h501 => ?_) (fun h501 => ?_)
              · exact absurd rfl h501
              · refine tn_ic (v := 1) X dL_law_504 (by decide) ?_
                refine lv_goto (tgt := 509) X.1 X.2.1 dL_law_505 (by decide) ?_
                exact hfin 509 H ls locs dL_law_509 hS
    · exfalso; omega
  | succ k ih =>
    intro time back fee goods ν ht hO hc hbk hg ls H locs hM hS hl
    have hbd := hO.b
    obtain ⟨i0, hi0, hi1⟩ := cnt_some hO.2.2.2.1 (by omega)
    have K364 : ∀ (a : Nat), a < many → 1 ≤ ν 34 a → ∀ (ls : Array Slot) (H : Heap) (locs : List Loc), xM G ν [(C, aI G 2 (cntA many all))] H → pS G s.heap H locs → lv_has ls 17 [(13, .int (nI a)), (12, .int (nI time)), (11, .int (nI (k + 1))), (10, .int (nI back)), (9, .int (nI fee)), (8, .int (nI goods)), (4, .ref C), (1, .ref (ra G 0)), (0, .ref b)] → W p l e room_1 s m args below meth c H locs 600086 7301442 Q (F0 m 364 ls []) := by
      intro a ha hna ls H locs hM hS hl
      obtain ⟨hG1, hG2, hG3, hG4⟩ := gb_oOK hO ha hna
      have hGk : cnt (gbM ν 0 a 1) (31 + 5 * 0) 10 = k := by show cnt (gbM ν 0 a 1) 31 10 = k; omega
      refine lv_aload_n X.1 X.2.1 dL_law_364 rfl (lv_at hl 7 rfl) ?_
      refine tn_ic (v := 0) X dL_law_365 (by decide) ?_
      refine tn_ic (v := 0) X dL_law_366 (by decide) ?_
      refine kLD (As := [_, _]) X hM hS hl.1 (c_X5_order hO.1 (by rw [hO.2.2.1]; decide) (by decide)) rfl kl_L_89 mf_X5_order ⟨Nat.le_of_ble_eq_true rfl, Nat.le_of_ble_eq_true rfl⟩ ⟨Nat.le_refl _, Nat.le_refl _⟩ rfl (Nat.le_of_ble_eq_true rfl) dL_law_367 (fun r367 ν367 H locs hp367 hM hS => ?_)
      obtain ⟨rfl, e367⟩ := hp367
      replace e367 := e367.symm
      subst e367
      refine tn_as (show _ = ν 30 3 from rfl) ?_
      refine lv_istore X.1 X.2.1 dL_law_370 hl (by decide) rfl (fun ls hl => ?_)
      replace hl : lv_has ls 17 [(14, _), (13, _), (12, _), (11, _), (10, _), (9, _), (8, _), (4, _), (1, _), (0, _)] := hl
      refine lv_aload_n X.1 X.2.1 dL_law_372 rfl (lv_at hl 8 rfl) ?_
      refine tn_ic (v := 0) X dL_law_373 (by decide) ?_
      refine tn_ic (v := 2) X dL_law_374 (by decide) ?_
      refine kLD (As := [_, _]) X hM hS hl.1 (c_X5_order hO.1 (by rw [hO.2.2.1]; decide) (by decide)) rfl kl_L_89 mf_X5_order ⟨Nat.le_of_ble_eq_true rfl, Nat.le_of_ble_eq_true rfl⟩ ⟨Nat.le_refl _, Nat.le_refl _⟩ rfl (Nat.le_of_ble_eq_true rfl) dL_law_375 (fun r375 ν375 H locs hp375 hM hS => ?_)
      obtain ⟨rfl, e375⟩ := hp375
      replace e375 := e375.symm
      subst e375
      refine tn_as (show _ = ν 30 1 from rfl) ?_
      refine lv_istore X.1 X.2.1 dL_law_378 hl (by decide) rfl (fun ls hl => ?_)
      replace hl : lv_has ls 17 [(15, _), (14, _), (13, _), (12, _), (11, _), (10, _), (9, _), (8, _), (4, _), (1, _), (0, _)] := hl
      refine lv_aload_n X.1 X.2.1 dL_law_380 rfl (lv_at hl 9 rfl) ?_
      refine tn_ic (v := 0) X dL_law_381 (by decide) ?_
      refine lv_iload X.1 X.2.1 dL_law_382 (lv_at hl 2 rfl) ?_
      refine tn_ic (v := 1) X dL_law_384 (by decide) ?_
      refine kLD (As := [_, _, _]) X hM hS hl.1 (c_X5_giveBack hO.1 (by rw [hO.2.2.1]; decide) (by rw [hO.2.1]; exact ha) (Nat.le_refl 1) hna) rfl kl_L_95 mf_X5_giveBack ⟨Nat.le_of_ble_eq_true rfl, Nat.le_of_ble_eq_true rfl⟩ ⟨Nat.le_refl _, Nat.le_refl _⟩ rfl (Nat.le_of_ble_eq_true rfl) dL_law_385 (fun r385 ν385 H locs hp385 hM hS => ?_)
      obtain ⟨rfl, hd385⟩ := hp385
      have hP := hG1.dsk hd385
      refine lv_istore X.1 X.2.1 dL_law_388 hl (by decide) rfl (fun ls hl => ?_)
      replace hl : lv_has ls 17 [(16, _), (15, _), (14, _), (13, _), (12, _), (11, _), (10, _), (9, _), (8, _), (4, _), (1, _), (0, _)] := hl
      refine lv_iload X.1 X.2.1 dL_law_390 (lv_at hl 6 rfl) ?_
      refine lv_iload X.1 X.2.1 dL_law_392 (lv_at hl 0 rfl) ?_
      refine tn_add X dL_law_394 ?_
      refine lv_istore X.1 X.2.1 dL_law_395 hl (by decide) rfl (fun ls hl => ?_)
      replace hl : lv_has ls 17 [(10, _), (16, _), (15, _), (14, _), (13, _), (12, _), (11, _), (9, _), (8, _), (4, _), (1, _), (0, _)] := hl
      refine tn_dec (k := 6) X dL_law_397 hl rfl (by omega) (by decide) rfl (fun ls hl => ?_)
      replace hl : lv_has ls 17 [(11, _), (10, _), (16, _), (15, _), (14, _), (13, _), (12, _), (9, _), (8, _), (4, _), (1, _), (0, _)] := hl
      refine lv_iload X.1 X.2.1 dL_law_400 (lv_at hl 2 rfl) ?_
      refine tn_lt0 (tgt := 451) X dL_law_402 (by decide) (by omega) ?_
      refine lv_iload X.1 X.2.1 dL_law_405 (lv_at hl 2 rfl) ?_
      refine lv_iload X.1 X.2.1 dL_law_407 (lv_at hl 4 rfl) ?_
      refine tn_gt (tgt := 451) X dL_law_409 (by decide) (by omega) (by omega) (fun h409 => ?_) (fun h409 => ?_)
      · exfalso; omega
      · refine lv_aload_n X.1 X.2.1 dL_law_412 rfl (lv_at hl 10 rfl) ?_
        refine tn_ic (v := 0) X dL_law_413 (by decide) ?_
        refine tn_ic (v := 0) X dL_law_414 (by decide) ?_
        refine kLD (As := [_, _]) X hM hS hl.1 (c_X5_order hP.1 (by rw [hP.2.2.1]; decide) (by decide)) rfl kl_L_89 mf_X5_order ⟨Nat.le_of_ble_eq_true rfl, Nat.le_of_ble_eq_true rfl⟩ ⟨Nat.le_refl _, Nat.le_refl _⟩ rfl (Nat.le_of_ble_eq_true rfl) dL_law_415 (fun r415 ν415 H locs hp415 hM hS => ?_)
        obtain ⟨rfl, e415⟩ := hp415
        replace e415 := e415.symm
        subst e415
        refine tn_as (show _ = gbM ν 0 a 1 30 3 from congrFun (hd385 30 (by omega)) 3) ?_
        refine lv_iload X.1 X.2.1 dL_law_418 (lv_at hl 4 rfl) ?_
        refine lv_iload X.1 X.2.1 dL_law_420 (lv_at hl 2 rfl) ?_
        refine tn_sub X dL_law_422 (by omega) ?_
        refine tn_ne (tgt := 451) X dL_law_423 (by decide) (by omega) (by omega) (fun h423 => ?_) (fun h423 => ?_)
        · exfalso; omega
        · refine lv_aload_n X.1 X.2.1 dL_law_426 rfl (lv_at hl 10 rfl) ?_
          refine tn_ic (v := 0) X dL_law_427 (by decide) ?_
          refine tn_ic (v := 3) X dL_law_428 (by decide) ?_
          refine kLD (As := [_, _]) X hM hS hl.1 (c_X5_order hP.1 (by rw [hP.2.2.1]; decide) (by decide)) rfl kl_L_89 mf_X5_order ⟨Nat.le_of_ble_eq_true rfl, Nat.le_of_ble_eq_true rfl⟩ ⟨Nat.le_refl _, Nat.le_refl _⟩ rfl (Nat.le_of_ble_eq_true rfl) dL_law_429 (fun r429 ν429 H locs hp429 hM hS => ?_)
          obtain ⟨rfl, e429⟩ := hp429
          replace e429 := e429.symm
          subst e429
          refine tn_as (show _ = k from (hd385.cnt (lotB_o (k := 0) (by decide)) 10).trans hGk) ?_
          refine lv_iload X.1 X.2.1 dL_law_432 (lv_at hl 0 rfl) ?_
          refine tn_ne (tgt := 451) X dL_law_434 (by decide) (by omega) (by omega) (fun h434 => ?_) (fun h434 => ?_)
          · exfalso; omega
          · refine lv_aload_n X.1 X.2.1 dL_law_437 rfl (lv_at hl 10 rfl) ?_
            refine tn_ic (v := 0) X dL_law_438 (by decide) ?_
            refine tn_ic (v := 2) X dL_law_439 (by decide) ?_
            refine kLD (As := [_, _]) X hM hS hl.1 (c_X5_order hP.1 (by rw [hP.2.2.1]; decide) (by decide)) rfl kl_L_89 mf_X5_order ⟨Nat.le_of_ble_eq_true rfl, Nat.le_of_ble_eq_true rfl⟩ ⟨Nat.le_refl _, Nat.le_refl _⟩ rfl (Nat.le_of_ble_eq_true rfl) dL_law_440 (fun r440 ν440 H locs hp440 hM hS => ?_)
            obtain ⟨rfl, e440⟩ := hp440
            replace e440 := e440.symm
            subst e440
            refine tn_as (show _ = gbM ν 0 a 1 30 1 from congrFun (hd385 30 (by omega)) 1) ?_
            refine lv_iload X.1 X.2.1 dL_law_443 (lv_at hl 3 rfl) ?_
            refine lv_iconst (v := -1) X.1 X.2.1 dL_law_445 (by decide) ?_
            refine lv_ixor X.1 X.2.1 dL_law_446 ?_
            refine lv_iand X.1 X.2.1 dL_law_447 ?_
            rw [mask0 hG4]
            refine lv_if_eq (tgt := 453) X.1 X.2.1 dL_law_448 (by decide) (fun _ => ?_) (fun q => absurd rfl q)
            refine tn_inc (k := 6) (w := 1) X dL_law_453 hl rfl (by decide) (by decide) rfl (fun ls hl => ?_)
            replace hl : lv_has ls 17 [(12, _), (11, _), (10, _), (16, _), (15, _), (14, _), (13, _), (9, _), (8, _), (4, _), (1, _), (0, _)] := hl
            refine lv_goto (tgt := 306) X.1 X.2.1 dL_law_456 (by decide) ?_
            exact ih (time + 1) (back + gbR ν 0 a 1) fee goods _ (by omega) hP ((hd385.cnt (lotB_o (k := 0) (by decide)) 10).trans hGk) (by rw [hd385 30 (by omega)]; omega) hg ls H locs hM hS (lv_sub hl [0, 1, 2, 7, 8, 9, 10, 11] rfl)
    have W340 : ∀ (n a : Nat), a < many → (a + n) % many = i0 → ∀ (ls : Array Slot) (H : Heap) (locs : List Loc), xM G ν [(C, aI G 2 (cntA many all))] H → pS G s.heap H locs → lv_has ls 17 [(13, .int (nI a)), (12, .int (nI time)), (11, .int (nI (k + 1))), (10, .int (nI back)), (9, .int (nI fee)), (8, .int (nI goods)), (4, .ref C), (1, .ref (ra G 0)), (0, .ref b)] → W p l e room_1 s m args below meth c H locs 600086 7301442 Q (F0 m 340 ls []) := by
      intro n
      induction n with
      | zero =>
        intro a ha hn ls H locs hM hS hl
        have ea : a = i0 := by rw [Nat.add_zero, Nat.mod_eq_of_lt ha] at hn; exact hn
        refine lv_aload_n X.1 X.2.1 dL_law_340 rfl (lv_at hl 7 rfl) ?_
        refine tn_ic (v := 0) X dL_law_341 (by decide) ?_
        refine lv_iload X.1 X.2.1 dL_law_342 (lv_at hl 0 rfl) ?_
        refine kLD (As := [_, _]) X hM hS hl.1 (c_X5_pieces hO.1 (by rw [hO.2.2.1]; decide) (by rw [hO.2.1]; exact ha)) rfl kl_L_92 mf_X5_pieces ⟨Nat.le_of_ble_eq_true rfl, Nat.le_of_ble_eq_true rfl⟩ ⟨Nat.le_refl _, Nat.le_refl _⟩ rfl (Nat.le_of_ble_eq_true rfl) dL_law_344 (fun r344 ν344 H locs hp344 hM hS => ?_)
        obtain ⟨rfl, e344⟩ := hp344
        replace e344 := e344.symm
        subst e344
        refine tn_as (show _ = ν 34 a from rfl) ?_
        refine tn_ne0 (tgt := 364) X dL_law_347 (by decide) (by have := hO.1.c6 (lotB_o (k := 0) (by decide)) a (by omega); exact Nat.lt_of_le_of_lt this (by decide)) (fun h347 => ?_) (fun h347 => ?_)
        · exact K364 a ha (by omega) ls H locs hM hS (lv_sub hl [0, 1, 2, 3, 4, 5, 6, 7, 8] rfl)
        · exfalso; rw [ea] at h347; omega
      | succ n ihn =>
        intro a ha hn ls H locs hM hS hl
        refine lv_aload_n X.1 X.2.1 dL_law_340 rfl (lv_at hl 7 rfl) ?_
        refine tn_ic (v := 0) X dL_law_341 (by decide) ?_
        refine lv_iload X.1 X.2.1 dL_law_342 (lv_at hl 0 rfl) ?_
        refine kLD (As := [_, _]) X hM hS hl.1 (c_X5_pieces hO.1 (by rw [hO.2.2.1]; decide) (by rw [hO.2.1]; exact ha)) rfl kl_L_92 mf_X5_pieces ⟨Nat.le_of_ble_eq_true rfl, Nat.le_of_ble_eq_true rfl⟩ ⟨Nat.le_refl _, Nat.le_refl _⟩ rfl (Nat.le_of_ble_eq_true rfl) dL_law_344 (fun r344 ν344 H locs hp344 hM hS => ?_)
        obtain ⟨rfl, e344⟩ := hp344
        replace e344 := e344.symm
        subst e344
        refine tn_as (show _ = ν 34 a from rfl) ?_
        refine tn_ne0 (tgt := 364) X dL_law_347 (by decide) (by have := hO.1.c6 (lotB_o (k := 0) (by decide)) a (by omega); exact Nat.lt_of_le_of_lt this (by decide)) (fun h347 => ?_) (fun h347 => ?_)
        · exact K364 a ha (by omega) ls H locs hM hS (lv_sub hl [0, 1, 2, 3, 4, 5, 6, 7, 8] rfl)
        · refine lv_iload X.1 X.2.1 dL_law_350 (lv_at hl 0 rfl) ?_
          refine tn_ic (v := 1) X dL_law_352 (by decide) ?_
          refine tn_add X dL_law_353 ?_
          refine lv_aload X.1 X.2.1 dL_law_354 (lv_at hl 6 rfl) ?_
          refine tn_ic (v := 0) X dL_law_356 (by decide) ?_
          refine x_iald (q := 0) X hM rfl (by omega) (by decide) dL_law_357 ?_
          refine tn_as (cA0 many all) ?_
          refine tn_rem X dL_law_358 (by omega) (by omega) (by omega) ?_
          refine lv_istore X.1 X.2.1 dL_law_359 hl (by decide) rfl (fun ls hl => ?_)
          replace hl : lv_has ls 17 [(13, _), (12, _), (11, _), (10, _), (9, _), (8, _), (4, _), (1, _), (0, _)] := hl
          refine lv_goto (tgt := 340) X.1 X.2.1 dL_law_361 (by decide) ?_
          exact ihn ((a + 1) % many) (Nat.mod_lt _ (by omega)) (by rw [Nat.mod_add_mod, ← hn]; congr 1; omega) ls H locs hM hS (lv_sub hl [0, 1, 2, 3, 4, 5, 6, 7, 8] rfl)
    refine lv_iload X.1 X.2.1 dL_law_306 (lv_at hl 1 rfl) ?_
    refine tn_le0 (tgt := 459) X dL_law_308 (by decide) (by omega) (fun h308 => ?_) (fun h308 => ?_)
    · exfalso; omega
    · refine lv_aload_n X.1 X.2.1 dL_law_311 rfl (lv_at hl 7 rfl) ?_
      refine tn_bi (v := 9) X dL_law_312 (by decide) ?_
      refine lv_iload X.1 X.2.1 dL_law_314 (lv_at hl 0 rfl) ?_
      refine tn_bi (v := 7) X dL_law_316 (by decide) ?_
      refine tn_rem X dL_law_318 (by omega) (by omega) (by omega) ?_
      refine tn_add X dL_law_319 ?_
      refine kLS (As := [_, _]) hasX.calling (hX.go hb hS) X hM hS hl.1 (c_L_cell (k := _) (by omega)) kl_L_9 mf_L_cell ⟨Nat.le_of_ble_eq_true rfl, Nat.le_of_ble_eq_true rfl⟩ ⟨Nat.le_refl _, Nat.le_refl _⟩ rfl (Nat.le_of_ble_eq_true rfl) dL_law_320 (fun z320 H locs _ hM hS _ _ => ?_)
      refine lv_iload X.1 X.2.1 dL_law_323 (lv_at hl 0 rfl) ?_
      refine tn_bi (v := 7) X dL_law_325 (by decide) ?_
      refine tn_div X dL_law_327 (by omega) (by omega) (by omega) ?_
      refine tn_ic (v := 3) X dL_law_328 (by decide) ?_
      refine tn_mul X dL_law_329 ?_
      refine tn_sar X dL_law_330 (fun z330 => ?_)
      refine lv_aload X.1 X.2.1 dL_law_331 (lv_at hl 5 rfl) ?_
      refine tn_ic (v := 0) X dL_law_333 (by decide) ?_
      refine x_iald (q := 0) X hM rfl (by omega) (by decide) dL_law_334 ?_
      refine tn_as (cA0 many all) ?_
      refine kLS (As := [_, _]) (fun _ _ _ _ h => h) (fun _ _ _ => trivial) X hM hS hl.1 (c_L_below (n := _) (by omega) (by omega)) kl_L_15 mf_L_below ⟨Nat.le_of_ble_eq_true rfl, Nat.le_of_ble_eq_true rfl⟩ ⟨Nat.le_refl _, Nat.le_refl _⟩ rfl (Nat.le_of_ble_eq_true rfl) dL_law_335 (fun z335 H locs hz335 hM hS _ _ => ?_)
      obtain ⟨q335, hq335, rfl⟩ := hz335
      refine lv_istore X.1 X.2.1 dL_law_338 hl (by decide) rfl (fun ls hl => ?_)
      replace hl : lv_has ls 17 [(13, _), (12, _), (11, _), (10, _), (9, _), (8, _), (4, _), (1, _), (0, _)] := hl
      exact W340 (i0 + many - q335) q335 hq335 (by rw [show q335 + (i0 + many - q335) = i0 + many by omega, Nat.add_mod_right, Nat.mod_eq_of_lt hi0]) ls H locs hM hS (lv_sub hl [0, 1, 2, 3, 4, 5, 6, 7, 8] rfl)
set_option maxHeartbeats 8000000 in
set_option maxRecDepth 100000 in
theorem t_68 {p : Program} {l : Launch} {e : Env} {s : State} {m : MethodId} {args : Array Value} {below : List Frame} {meth : Method} {c : Code} {Q : State → Prop} {G : dG} {b C many all : Nat} (X : dC p s m args c code 17 RL G) (hX : hasX b s) (hb : b < G.2.2) (hm1 : 1 ≤ many) (hm5 : many ≤ 5) (ha5 : all ≤ 5) (hfin : ∀ (pc : Nat) (H : Heap) (ls : Array Slot) (locs : List Loc), decode code pc = .ok (.ireturn, 1) → pS G s.heap H locs → W p l e room_1 s m args below meth c H locs 600086 7301442 Q (F0 m pc ls [.int (nI 1)])) : ∀ (σ : Mm), bOK many all σ → ∀ (ls : Array Slot) (H : Heap) (locs : List Loc), xM G σ [(C, aI G 2 (cntA many all))] H → pS G s.heap H locs → lv_has ls 17 [(4, .ref C), (1, .ref (ra G 0)), (0, .ref b)] → W p l e room_1 s m args below meth c H locs 600086 7301442 Q (F0 m 68 ls []) := by
  intro σ hB ls H locs hM hS hl
  have hW := hB.1
  have h06 : σ 0 6 = all := hB.2.2.1
  obtain ⟨hbal, hblt, hmin⟩ := srch_best hW 0
  rw [h06] at hblt hmin
  obtain ⟨bs, hbs⟩ : ∃ z, z = (srch σ 0).1 := ⟨_, rfl⟩
  rw [← hbs] at hbal hblt hmin
  have h32 : 2 ^ all ≤ 2 ^ 5 := Nat.pow_le_pow_right (by decide) ha5
  have h25 : (2 : Nat) ^ 5 = 32 := by decide
  have hpb := hW.pb lotB_1 255
  have hgb := gd_le_pin hW lotB_1 bs
  have hfb := feF_le hW bs (gdF σ 1 bs)
  have htb : toT σ bs = gdF σ 1 bs + feF σ bs (gdF σ 1 bs) := rfl
  have hal0 : al σ 0 = true := alF_zero σ _
  have T222 : ∀ (ν : Mm), dsk σ ν → pin σ 1 255 10 ≠ 0 → ∀ (ls : Array Slot) (H : Heap) (locs : List Loc), xM G ν [(C, aI G 2 (cntA many all))] H → pS G s.heap H locs → lv_has ls 17 [(7, .int (nI (pin σ 1 255 10))), (6, .int (nI (toT σ bs))), (5, .int (nI bs)), (4, .ref C), (1, .ref (ra G 0)), (0, .ref b)] → W p l e room_1 s m args below meth c H locs 600086 7301442 Q (F0 m 222 ls []) := by
    intro ν hD hv ls H locs hM hS hl
    have hc0 : cnt σ 1 10 ≠ 0 := fun q => hv (pin_cnt q)
    refine lv_aload_n X.1 X.2.1 dL_law_222 rfl (lv_at hl 4 rfl) ?_
    refine lv_iload X.1 X.2.1 dL_law_223 (lv_at hl 2 rfl) ?_
    refine kLD (As := [_]) X hM hS hl.1 (c_X5_goods (hD.WD hW) (by rw [hD.d, h06]; exact hblt) (by rw [hD.al]; exact hbal)) rfl kl_L_80 mf_X5_goods ⟨Nat.le_of_ble_eq_true rfl, Nat.le_of_ble_eq_true rfl⟩ ⟨Nat.le_refl _, Nat.le_refl _⟩ rfl (Nat.le_of_ble_eq_true rfl) dL_law_225 (fun r225 ν225 H locs hp225 hM hS => ?_)
    obtain ⟨e225, hd225⟩ := hp225
    refine tn_as (show r225 = gdF σ 1 bs from e225.trans (hD.gdF lotB_1 bs)) ?_
    replace hD := hD.trans hd225
    refine lv_istore X.1 X.2.1 dL_law_228 hl (by decide) rfl (fun ls hl => ?_)
    replace hl : lv_has ls 17 [(8, _), (7, _), (6, _), (5, _), (4, _), (1, _), (0, _)] := hl
    refine lv_iload X.1 X.2.1 dL_law_230 (lv_at hl 2 rfl) ?_
    refine lv_iload X.1 X.2.1 dL_law_232 (lv_at hl 0 rfl) ?_
    refine tn_sub X dL_law_234 (by omega) ?_
    refine tn_as (show toT σ bs - gdF σ 1 bs = feF σ bs (gdF σ 1 bs) by omega) ?_
    refine lv_istore X.1 X.2.1 dL_law_235 hl (by decide) rfl (fun ls hl => ?_)
    replace hl : lv_has ls 17 [(9, _), (8, _), (7, _), (6, _), (5, _), (4, _), (1, _), (0, _)] := hl
    refine lv_aload_n X.1 X.2.1 dL_law_237 rfl (lv_at hl 6 rfl) ?_
    refine lv_iload X.1 X.2.1 dL_law_238 (lv_at hl 4 rfl) ?_
    refine kLD (As := [_]) X hM hS hl.1 (c_X5_buy (hD.WD hW) (by rw [hD.d, h06]; exact hblt) (by rw [hD.al]; exact hbal) (by rw [hD.cnt lotB_1]; exact hc0) (by rw [hD.d, hB.2.2.2.1]; decide)) rfl kl_L_86 mf_X5_buy ⟨Nat.le_of_ble_eq_true rfl, Nat.le_of_ble_eq_true rfl⟩ ⟨Nat.le_refl _, Nat.le_refl _⟩ rfl (Nat.le_of_ble_eq_true rfl) dL_law_240 (fun r240 ν240 H locs hp240 hM hS => ?_)
    obtain ⟨e240, hd240⟩ := hp240
    refine tn_as (show r240 = 0 from e240.trans (by rw [hD.d, hB.2.2.2.1])) ?_
    obtain ⟨hO0, hO3, hO1, hOc, hOp⟩ := buy_oOK (hB.dsk hD) (st := bs) (by omega) (by rw [hD.cnt lotB_1]; exact hc0)
    rw [hD.gdF lotB_1, hD.feF] at hO0
    have hO := hO0.dsk hd240
    have f0 : ν240 30 3 = gdF σ 1 bs := by rw [hd240 30 (by omega), hO3, hD.gdF lotB_1]
    have f1 := hO.2.2.2.2.1
    have f2 : ν240 30 1 = bs := by rw [hd240 30 (by omega), hO1]
    have f3 : cnt ν240 31 10 = cnt σ 1 10 := by rw [hd240.cnt (lotB_o (k := 0) (by decide)) 10]; exact hOc.trans (hD.cnt lotB_1 10)
    have f4 : pin ν240 31 255 10 = pin σ 1 255 10 := by rw [hd240.pin (lotB_o (k := 0) (by decide)) 255 10]; exact hOp.trans (hD.pin lotB_1 255 10)
    have hbd := hO.b
    refine tn_ne0 (tgt := 290) X dL_law_243 (by decide) (by omega) (fun h243 => ?_) (fun h243 => ?_)
    · exact absurd rfl h243
    · refine lv_aload_n X.1 X.2.1 dL_law_246 rfl (lv_at hl 6 rfl) ?_
      refine tn_ic (v := 0) X dL_law_247 (by decide) ?_
      refine tn_ic (v := 0) X dL_law_248 (by decide) ?_
      refine kLD (As := [_, _]) X hM hS hl.1 (c_X5_order hO.1 (by rw [hO.2.2.1]; decide) (by decide)) rfl kl_L_89 mf_X5_order ⟨Nat.le_of_ble_eq_true rfl, Nat.le_of_ble_eq_true rfl⟩ ⟨Nat.le_refl _, Nat.le_refl _⟩ rfl (Nat.le_of_ble_eq_true rfl) dL_law_249 (fun r249 ν249 H locs hp249 hM hS => ?_)
      obtain ⟨rfl, e249⟩ := hp249
      replace e249 := e249.symm
      subst e249
      refine tn_as (show _ = gdF σ 1 bs from f0) ?_
      refine lv_iload X.1 X.2.1 dL_law_252 (lv_at hl 1 rfl) ?_
      refine tn_ne (tgt := 290) X dL_law_254 (by decide) (by omega) (by omega) (fun h254 => ?_) (fun h254 => ?_)
      · exact absurd rfl h254
      · refine lv_aload_n X.1 X.2.1 dL_law_257 rfl (lv_at hl 6 rfl) ?_
        refine tn_ic (v := 0) X dL_law_258 (by decide) ?_
        refine tn_ic (v := 1) X dL_law_259 (by decide) ?_
        refine kLD (As := [_, _]) X hM hS hl.1 (c_X5_order hO.1 (by rw [hO.2.2.1]; decide) (by decide)) rfl kl_L_89 mf_X5_order ⟨Nat.le_of_ble_eq_true rfl, Nat.le_of_ble_eq_true rfl⟩ ⟨Nat.le_refl _, Nat.le_refl _⟩ rfl (Nat.le_of_ble_eq_true rfl) dL_law_260 (fun r260 ν260 H locs hp260 hM hS => ?_)
        obtain ⟨rfl, e260⟩ := hp260
        replace e260 := e260.symm
        subst e260
        refine tn_as (show _ = feF σ bs (gdF σ 1 bs) from f1) ?_
        refine lv_iload X.1 X.2.1 dL_law_263 (lv_at hl 0 rfl) ?_
        refine tn_ne (tgt := 290) X dL_law_265 (by decide) (by omega) (by omega) (fun h265 => ?_) (fun h265 => ?_)
        · exact absurd rfl h265
        · refine lv_aload_n X.1 X.2.1 dL_law_268 rfl (lv_at hl 6 rfl) ?_
          refine tn_ic (v := 0) X dL_law_269 (by decide) ?_
          refine tn_ic (v := 2) X dL_law_270 (by decide) ?_
          refine kLD (As := [_, _]) X hM hS hl.1 (c_X5_order hO.1 (by rw [hO.2.2.1]; decide) (by decide)) rfl kl_L_89 mf_X5_order ⟨Nat.le_of_ble_eq_true rfl, Nat.le_of_ble_eq_true rfl⟩ ⟨Nat.le_refl _, Nat.le_refl _⟩ rfl (Nat.le_of_ble_eq_true rfl) dL_law_271 (fun r271 ν271 H locs hp271 hM hS => ?_)
          obtain ⟨rfl, e271⟩ := hp271
          replace e271 := e271.symm
          subst e271
          refine tn_as (show _ = bs from f2) ?_
          refine lv_iload X.1 X.2.1 dL_law_274 (lv_at hl 4 rfl) ?_
          refine tn_ne (tgt := 290) X dL_law_276 (by decide) (by omega) (by omega) (fun h276 => ?_) (fun h276 => ?_)
          · exact absurd rfl h276
          · refine lv_aload_n X.1 X.2.1 dL_law_279 rfl (lv_at hl 6 rfl) ?_
            refine tn_ic (v := 0) X dL_law_280 (by decide) ?_
            refine tn_ic (v := 4) X dL_law_281 (by decide) ?_
            refine kLD (As := [_, _]) X hM hS hl.1 (c_X5_order hO.1 (by rw [hO.2.2.1]; decide) (by decide)) rfl kl_L_89 mf_X5_order ⟨Nat.le_of_ble_eq_true rfl, Nat.le_of_ble_eq_true rfl⟩ ⟨Nat.le_refl _, Nat.le_refl _⟩ rfl (Nat.le_of_ble_eq_true rfl) dL_law_282 (fun r282 ν282 H locs hp282 hM hS => ?_)
            obtain ⟨rfl, e282⟩ := hp282
            replace e282 := e282.symm
            subst e282
            refine tn_as (show _ = pin σ 1 255 10 from f4) ?_
            refine lv_iload X.1 X.2.1 dL_law_285 (lv_at hl 2 rfl) ?_
            refine tn_eq (tgt := 292) X dL_law_287 (by decide) (by omega) (by omega) (fun h287 => ?_) (fun h287 => ?_)
            · refine tn_ic (v := 0) X dL_law_292 (by decide) ?_
              refine lv_istore X.1 X.2.1 dL_law_293 hl (by decide) rfl (fun ls hl => ?_)
              replace hl : lv_has ls 17 [(10, _), (9, _), (8, _), (7, _), (6, _), (5, _), (4, _), (1, _), (0, _)] := hl
              refine lv_aload_n X.1 X.2.1 dL_law_295 rfl (lv_at hl 7 rfl) ?_
              refine tn_ic (v := 0) X dL_law_296 (by decide) ?_
              refine tn_ic (v := 3) X dL_law_297 (by decide) ?_
              refine kLD (As := [_, _]) X hM hS hl.1 (c_X5_order hO.1 (by rw [hO.2.2.1]; decide) (by decide)) rfl kl_L_89 mf_X5_order ⟨Nat.le_of_ble_eq_true rfl, Nat.le_of_ble_eq_true rfl⟩ ⟨Nat.le_refl _, Nat.le_refl _⟩ rfl (Nat.le_of_ble_eq_true rfl) dL_law_298 (fun r298 ν298 H locs hp298 hM hS => ?_)
              obtain ⟨rfl, e298⟩ := hp298
              replace e298 := e298.symm
              subst e298
              refine tn_as (show _ = cnt σ 1 10 from f3) ?_
              refine lv_istore X.1 X.2.1 dL_law_301 hl (by decide) rfl (fun ls hl => ?_)
              replace hl : lv_has ls 17 [(11, _), (10, _), (9, _), (8, _), (7, _), (6, _), (5, _), (4, _), (1, _), (0, _)] := hl
              refine tn_ic (v := 0) X dL_law_303 (by decide) ?_
              refine lv_istore X.1 X.2.1 dL_law_304 hl (by decide) rfl (fun ls hl => ?_)
              replace hl : lv_has ls 17 [(12, _), (11, _), (10, _), (9, _), (8, _), (7, _), (6, _), (5, _), (4, _), (1, _), (0, _)] := hl
              exact t_306 X hX hb hm1 hm5 ha5 hfin (cnt σ 1 10) 0 0 (feF σ bs (gdF σ 1 bs)) (gdF σ 1 bs) _ (by omega) hO f3 (by omega) (by omega) ls H locs hM hS (lv_sub hl [0, 1, 2, 3, 4, 8, 9, 10] rfl)
            · exact absurd rfl h287
  have L85 : ∀ (k T : Nat) (ν : Mm), T + k = 2 ^ all → dsk σ ν → ∀ (ls : Array Slot) (H : Heap) (locs : List Loc), xM G ν [(C, aI G 2 (cntA many all))] H → pS G s.heap H locs → lv_has ls 17 [(7, .int (nI T)), (6, .int (nI (toT σ bs))), (5, .int (nI bs)), (4, .ref C), (1, .ref (ra G 0)), (0, .ref b)] → W p l e room_1 s m args below meth c H locs 600086 7301442 Q (F0 m 85 ls []) := by
    intro k
    induction k with
    | zero =>
      intro T ν hk hD ls H locs hM hS hl
      have hm0 := hmin 0 (by omega) hal0
      unfold better at hm0
      have ht0 : toT σ 0 ≤ 610000 := toT_le hW 0
      refine lv_iload X.1 X.2.1 dL_law_85 (lv_at hl 0 rfl) ?_
      refine tn_ic (v := 1) X dL_law_87 (by decide) ?_
      refine lv_aload X.1 X.2.1 dL_law_88 (lv_at hl 3 rfl) ?_
      refine tn_ic (v := 1) X dL_law_90 (by decide) ?_
      refine x_iald (q := 0) X hM rfl (by omega) (by decide) dL_law_91 ?_
      refine tn_as (cA1 many all) ?_
      refine tn_shl1 X dL_law_92 (by omega) ?_
      refine tn_ge (tgt := 197) X dL_law_93 (by decide) (by omega) (by omega) (fun h93 => ?_) (fun h93 => ?_)
      · refine lv_iload X.1 X.2.1 dL_law_197 (lv_at hl 1 rfl) ?_
        refine lv_aload_n X.1 X.2.1 dL_law_199 rfl (lv_at hl 4 rfl) ?_
        refine tn_ic (v := 0) X dL_law_200 (by decide) ?_
        refine kLD (As := [_]) X hM hS hl.1 (c_X5_total (hD.WD hW) (by rw [hD.d, h06]; exact (by omega)) (by rw [hD.al]; exact hal0)) rfl kl_L_67 mf_X5_total ⟨Nat.le_of_ble_eq_true rfl, Nat.le_of_ble_eq_true rfl⟩ ⟨Nat.le_refl _, Nat.le_refl _⟩ rfl (Nat.le_of_ble_eq_true rfl) dL_law_201 (fun r201 ν201 H locs hp201 hM hS => ?_)
        obtain ⟨e201, hd201⟩ := hp201
        refine tn_as (show r201 = toT σ 0 from e201.trans (hD.toT 0)) ?_
        replace hD := hD.trans hd201
        refine tn_le (tgt := 209) X dL_law_204 (by decide) (by omega) (by omega) (fun h204 => ?_) (fun h204 => ?_)
        · refine lv_aload_n X.1 X.2.1 dL_law_209 rfl (lv_at hl 4 rfl) ?_
          refine kLD (As := []) X hM hS hl.1 (c_X5_value (hD.WD hW)) rfl kl_L_83 mf_X5_value ⟨Nat.le_of_ble_eq_true rfl, Nat.le_of_ble_eq_true rfl⟩ ⟨Nat.le_refl _, Nat.le_refl _⟩ rfl (Nat.le_of_ble_eq_true rfl) dL_law_210 (fun r210 ν210 H locs hp210 hM hS => ?_)
          obtain ⟨rfl, e210⟩ := hp210
          replace e210 := e210.symm
          subst e210
          refine tn_as (show _ = pin σ 1 255 10 from hD.pin lotB_1 255 10) ?_
          refine lv_istore X.1 X.2.1 dL_law_213 hl (by decide) rfl (fun ls hl => ?_)
          replace hl : lv_has ls 17 [(7, _), (6, _), (5, _), (4, _), (1, _), (0, _)] := hl
          refine lv_iload X.1 X.2.1 dL_law_215 (lv_at hl 0 rfl) ?_
          refine tn_ne0 (tgt := 222) X dL_law_217 (by decide) (by omega) (fun h217 => ?_) (fun h217 => ?_)
          · exact T222 _ hD h217 ls H locs hM hS (lv_sub hl [0, 1, 2, 3, 4, 5] rfl)
          · refine tn_ic (v := 1) X dL_law_220 (by decide) ?_
            exact hfin 221 H ls locs dL_law_221 hS
        · exfalso; omega
      · exfalso; omega
    | succ k ih =>
      intro T ν hk hD ls H locs hM hS hl
      have hTl : T < 2 ^ all := by omega
      have K165 : al σ T = true → ∀ (ν : Mm), dsk σ ν → ∀ (ls : Array Slot) (H : Heap) (locs : List Loc), xM G ν [(C, aI G 2 (cntA many all))] H → pS G s.heap H locs → lv_has ls 17 [(8, .int (nI (toT σ T))), (7, .int (nI T)), (6, .int (nI (toT σ bs))), (5, .int (nI bs)), (4, .ref C), (1, .ref (ra G 0)), (0, .ref b)] → W p l e room_1 s m args below meth c H locs 600086 7301442 Q (F0 m 165 ls []) := by
        intro hTa ν hD ls H locs hM hS hl
        have hgT := gd_le_pin hW lotB_1 T
        have hfT := feF_le hW T (gdF σ 1 T)
        have htT : toT σ T = gdF σ 1 T + feF σ T (gdF σ 1 T) := rfl
        refine lv_aload_n X.1 X.2.1 dL_law_165 rfl (lv_at hl 5 rfl) ?_
        refine lv_iload X.1 X.2.1 dL_law_166 (lv_at hl 1 rfl) ?_
        refine kLD (As := [_]) X hM hS hl.1 (c_X5_goods (hD.WD hW) (by rw [hD.d, h06]; exact hTl) (by rw [hD.al]; exact hTa)) rfl kl_L_80 mf_X5_goods ⟨Nat.le_of_ble_eq_true rfl, Nat.le_of_ble_eq_true rfl⟩ ⟨Nat.le_refl _, Nat.le_refl _⟩ rfl (Nat.le_of_ble_eq_true rfl) dL_law_168 (fun r168 ν168 H locs hp168 hM hS => ?_)
        obtain ⟨e168, hd168⟩ := hp168
        refine tn_as (show r168 = gdF σ 1 T from e168.trans (hD.gdF lotB_1 T)) ?_
        replace hD := hD.trans hd168
        refine lv_aload_n X.1 X.2.1 dL_law_171 rfl (lv_at hl 5 rfl) ?_
        refine kLD (As := []) X hM hS hl.1 (c_X5_value (hD.WD hW)) rfl kl_L_83 mf_X5_value ⟨Nat.le_of_ble_eq_true rfl, Nat.le_of_ble_eq_true rfl⟩ ⟨Nat.le_refl _, Nat.le_refl _⟩ rfl (Nat.le_of_ble_eq_true rfl) dL_law_172 (fun r172 ν172 H locs hp172 hM hS => ?_)
        obtain ⟨rfl, e172⟩ := hp172
        replace e172 := e172.symm
        subst e172
        refine tn_as (show _ = pin σ 1 255 10 from hD.pin lotB_1 255 10) ?_
        refine tn_gt (tgt := 189) X dL_law_175 (by decide) (by omega) (by omega) (fun h175 => ?_) (fun h175 => ?_)
        · exfalso; omega
        · refine lv_iload X.1 X.2.1 dL_law_178 (lv_at hl 0 rfl) ?_
          refine lv_aload_n X.1 X.2.1 dL_law_180 rfl (lv_at hl 5 rfl) ?_
          refine lv_iload X.1 X.2.1 dL_law_181 (lv_at hl 1 rfl) ?_
          refine kLD (As := [_]) X hM hS hl.1 (c_X5_goods (hD.WD hW) (by rw [hD.d, h06]; exact hTl) (by rw [hD.al]; exact hTa)) rfl kl_L_80 mf_X5_goods ⟨Nat.le_of_ble_eq_true rfl, Nat.le_of_ble_eq_true rfl⟩ ⟨Nat.le_refl _, Nat.le_refl _⟩ rfl (Nat.le_of_ble_eq_true rfl) dL_law_183 (fun r183 ν183 H locs hp183 hM hS => ?_)
          obtain ⟨e183, hd183⟩ := hp183
          refine tn_as (show r183 = gdF σ 1 T from e183.trans (hD.gdF lotB_1 T)) ?_
          replace hD := hD.trans hd183
          refine tn_ge (tgt := 191) X dL_law_186 (by decide) (by omega) (by omega) (fun h186 => ?_) (fun h186 => ?_)
          · refine tn_inc (k := 1) (w := 1) X dL_law_191 hl rfl (by decide) (by decide) rfl (fun ls hl => ?_)
            replace hl : lv_has ls 17 [(7, _), (8, _), (6, _), (5, _), (4, _), (1, _), (0, _)] := hl
            refine lv_goto (tgt := 85) X.1 X.2.1 dL_law_194 (by decide) ?_
            exact ih (T + 1) _ (by omega) hD ls H locs hM hS (lv_sub hl [0, 2, 3, 4, 5, 6] rfl)
          · exfalso; omega
      refine lv_iload X.1 X.2.1 dL_law_85 (lv_at hl 0 rfl) ?_
      refine tn_ic (v := 1) X dL_law_87 (by decide) ?_
      refine lv_aload X.1 X.2.1 dL_law_88 (lv_at hl 3 rfl) ?_
      refine tn_ic (v := 1) X dL_law_90 (by decide) ?_
      refine x_iald (q := 0) X hM rfl (by omega) (by decide) dL_law_91 ?_
      refine tn_as (cA1 many all) ?_
      refine tn_shl1 X dL_law_92 (by omega) ?_
      refine tn_ge (tgt := 197) X dL_law_93 (by decide) (by omega) (by omega) (fun h93 => ?_) (fun h93 => ?_)
      · exfalso; omega
      · refine lv_aload_n X.1 X.2.1 dL_law_96 rfl (lv_at hl 4 rfl) ?_
        refine lv_iload X.1 X.2.1 dL_law_97 (lv_at hl 0 rfl) ?_
        refine kLD (As := [_]) X hM hS hl.1 (c_X5_isAllowed (hD.WD hW) (by rw [hD.d, h06]; exact hTl)) rfl kl_L_71 mf_X5_isAllowed ⟨Nat.le_of_ble_eq_true rfl, Nat.le_of_ble_eq_true rfl⟩ ⟨Nat.le_refl _, Nat.le_refl _⟩ rfl (Nat.le_of_ble_eq_true rfl) dL_law_99 (fun r99 ν99 H locs hp99 hM hS => ?_)
        obtain ⟨rfl, e99⟩ := hp99
        replace e99 := e99.symm
        subst e99
        refine tn_ne0 (tgt := 108) X dL_law_102 (by decide) (by split <;> decide) (fun h102 => ?_) (fun h102 => ?_)
        · have hTa : al σ T = true := by rw [← hD.al]; exact ite1 h102
          have hmT := hmin T hTl hTa
          unfold better at hmT
          have htT : toT σ T ≤ 610000 := toT_le hW T
          have hbcT := bc_le T
          have hbcb := bc_le bs
          refine lv_aload_n X.1 X.2.1 dL_law_108 rfl (lv_at hl 4 rfl) ?_
          refine lv_iload X.1 X.2.1 dL_law_109 (lv_at hl 0 rfl) ?_
          refine kLD (As := [_]) X hM hS hl.1 (c_X5_total (hD.WD hW) (by rw [hD.d, h06]; exact hTl) (by rw [hD.al]; exact hTa)) rfl kl_L_67 mf_X5_total ⟨Nat.le_of_ble_eq_true rfl, Nat.le_of_ble_eq_true rfl⟩ ⟨Nat.le_refl _, Nat.le_refl _⟩ rfl (Nat.le_of_ble_eq_true rfl) dL_law_111 (fun r111 ν111 H locs hp111 hM hS => ?_)
          obtain ⟨e111, hd111⟩ := hp111
          refine tn_as (show r111 = toT σ T from e111.trans (hD.toT T)) ?_
          replace hD := hD.trans hd111
          refine lv_istore X.1 X.2.1 dL_law_114 hl (by decide) rfl (fun ls hl => ?_)
          replace hl : lv_has ls 17 [(8, _), (7, _), (6, _), (5, _), (4, _), (1, _), (0, _)] := hl
          refine lv_iload X.1 X.2.1 dL_law_116 (lv_at hl 0 rfl) ?_
          refine lv_iload X.1 X.2.1 dL_law_118 (lv_at hl 2 rfl) ?_
          refine tn_lt (tgt := 163) X dL_law_120 (by decide) (by omega) (by omega) (fun h120 => ?_) (fun h120 => ?_)
          · exfalso; omega
          · refine lv_iload X.1 X.2.1 dL_law_123 (lv_at hl 0 rfl) ?_
            refine lv_iload X.1 X.2.1 dL_law_125 (lv_at hl 2 rfl) ?_
            refine tn_ne (tgt := 165) X dL_law_127 (by decide) (by omega) (by omega) (fun h127 => ?_) (fun h127 => ?_)
            · exact K165 hTa _ hD ls H locs hM hS (lv_sub hl [0, 1, 2, 3, 4, 5, 6] rfl)
            · refine lv_iload X.1 X.2.1 dL_law_130 (lv_at hl 1 rfl) ?_
              refine kLJ (As := [_]) X hM hS hl.1 (c_J6_bitCount_0f7a4 (by omega)) kl_L_75 mf_J6_bitCount_0f7a4 ⟨Nat.le_of_ble_eq_true rfl, Nat.le_of_ble_eq_true rfl⟩ ⟨Nat.le_refl _, Nat.le_refl _⟩ rfl (Nat.le_of_ble_eq_true rfl) dL_law_132 (fun r132 ν132 H locs hp132 hM hS => ?_)
              obtain ⟨rfl, e132⟩ := hp132
              replace e132 := e132.symm
              subst e132
              refine lv_iload X.1 X.2.1 dL_law_135 (lv_at hl 3 rfl) ?_
              refine kLJ (As := [_]) X hM hS hl.1 (c_J6_bitCount_0f7a4 (by omega)) kl_L_75 mf_J6_bitCount_0f7a4 ⟨Nat.le_of_ble_eq_true rfl, Nat.le_of_ble_eq_true rfl⟩ ⟨Nat.le_refl _, Nat.le_refl _⟩ rfl (Nat.le_of_ble_eq_true rfl) dL_law_137 (fun r137 ν137 H locs hp137 hM hS => ?_)
              obtain ⟨rfl, e137⟩ := hp137
              replace e137 := e137.symm
              subst e137
              refine tn_lt (tgt := 163) X dL_law_140 (by decide) (by omega) (by omega) (fun h140 => ?_) (fun h140 => ?_)
              · exfalso; omega
              · refine lv_iload X.1 X.2.1 dL_law_143 (lv_at hl 1 rfl) ?_
                refine kLJ (As := [_]) X hM hS hl.1 (c_J6_bitCount_0f7a4 (by omega)) kl_L_75 mf_J6_bitCount_0f7a4 ⟨Nat.le_of_ble_eq_true rfl, Nat.le_of_ble_eq_true rfl⟩ ⟨Nat.le_refl _, Nat.le_refl _⟩ rfl (Nat.le_of_ble_eq_true rfl) dL_law_145 (fun r145 ν145 H locs hp145 hM hS => ?_)
                obtain ⟨rfl, e145⟩ := hp145
                replace e145 := e145.symm
                subst e145
                refine lv_iload X.1 X.2.1 dL_law_148 (lv_at hl 3 rfl) ?_
                refine kLJ (As := [_]) X hM hS hl.1 (c_J6_bitCount_0f7a4 (by omega)) kl_L_75 mf_J6_bitCount_0f7a4 ⟨Nat.le_of_ble_eq_true rfl, Nat.le_of_ble_eq_true rfl⟩ ⟨Nat.le_refl _, Nat.le_refl _⟩ rfl (Nat.le_of_ble_eq_true rfl) dL_law_150 (fun r150 ν150 H locs hp150 hM hS => ?_)
                obtain ⟨rfl, e150⟩ := hp150
                replace e150 := e150.symm
                subst e150
                refine tn_ne (tgt := 165) X dL_law_153 (by decide) (by omega) (by omega) (fun h153 => ?_) (fun h153 => ?_)
                · exact K165 hTa _ hD ls H locs hM hS (lv_sub hl [0, 1, 2, 3, 4, 5, 6] rfl)
                · refine lv_iload X.1 X.2.1 dL_law_156 (lv_at hl 1 rfl) ?_
                  refine lv_iload X.1 X.2.1 dL_law_158 (lv_at hl 3 rfl) ?_
                  refine tn_ge (tgt := 165) X dL_law_160 (by decide) (by omega) (by omega) (fun h160 => ?_) (fun h160 => ?_)
                  · exact K165 hTa _ hD ls H locs hM hS (lv_sub hl [0, 1, 2, 3, 4, 5, 6] rfl)
                  · exfalso; omega
        · refine lv_goto (tgt := 191) X.1 X.2.1 dL_law_105 (by decide) ?_
          refine tn_inc (k := 0) (w := 1) X dL_law_191 hl rfl (by decide) (by decide) rfl (fun ls hl => ?_)
          replace hl : lv_has ls 17 [(7, _), (6, _), (5, _), (4, _), (1, _), (0, _)] := hl
          refine lv_goto (tgt := 85) X.1 X.2.1 dL_law_194 (by decide) ?_
          exact ih (T + 1) _ (by omega) hD ls H locs hM hS (lv_sub hl [0, 1, 2, 3, 4, 5] rfl)
  refine lv_aload_n X.1 X.2.1 dL_law_68 rfl (lv_at hl 1 rfl) ?_
  refine kLD (As := []) X hM hS hl.1 (c_X5_best hW) rfl kl_L_63 mf_X5_best ⟨Nat.le_of_ble_eq_true rfl, Nat.le_of_ble_eq_true rfl⟩ ⟨Nat.le_refl _, Nat.le_refl _⟩ rfl (Nat.le_of_ble_eq_true rfl) dL_law_69 (fun r69 ν69 H locs hp69 hM hS => ?_)
  obtain ⟨e69, hD⟩ := hp69
  refine tn_as (show r69 = bs from e69.trans hbs.symm) ?_
  refine lv_istore X.1 X.2.1 dL_law_72 hl (by decide) rfl (fun ls hl => ?_)
  replace hl : lv_has ls 17 [(5, _), (4, _), (1, _), (0, _)] := hl
  refine lv_aload_n X.1 X.2.1 dL_law_74 rfl (lv_at hl 2 rfl) ?_
  refine lv_iload X.1 X.2.1 dL_law_75 (lv_at hl 0 rfl) ?_
  refine kLD (As := [_]) X hM hS hl.1 (c_X5_total (hD.WD hW) (by rw [hD.d, h06]; exact hblt) (by rw [hD.al]; exact hbal)) rfl kl_L_67 mf_X5_total ⟨Nat.le_of_ble_eq_true rfl, Nat.le_of_ble_eq_true rfl⟩ ⟨Nat.le_refl _, Nat.le_refl _⟩ rfl (Nat.le_of_ble_eq_true rfl) dL_law_77 (fun r77 ν77 H locs hp77 hM hS => ?_)
  obtain ⟨e77, hd77⟩ := hp77
  refine tn_as (show r77 = toT σ bs from e77.trans (hD.toT bs)) ?_
  replace hD := hD.trans hd77
  refine lv_istore X.1 X.2.1 dL_law_80 hl (by decide) rfl (fun ls hl => ?_)
  replace hl : lv_has ls 17 [(6, _), (5, _), (4, _), (1, _), (0, _)] := hl
  refine tn_ic (v := 0) X dL_law_82 (by decide) ?_
  refine lv_istore X.1 X.2.1 dL_law_83 hl (by decide) rfl (fun ls hl => ?_)
  replace hl : lv_has ls 17 [(7, _), (6, _), (5, _), (4, _), (1, _), (0, _)] := hl
  exact L85 (2 ^ all) 0 _ (by omega) hD ls H locs hM hS (lv_sub hl [0, 1, 2, 3, 4, 5] rfl)
set_option maxHeartbeats 8000000 in
set_option maxRecDepth 100000 in
theorem t_37 {p : Program} {l : Launch} {e : Env} {s : State} {m : MethodId} {args : Array Value} {below : List Frame} {meth : Method} {c : Code} {Q : State → Prop} {G : dG} {b C many all : Nat} (X : dC p s m args c code 17 RL G) (hX : hasX b s) (hb : b < G.2.2) (hm1 : 1 ≤ many) (hm5 : many ≤ 5) (ha5 : all ≤ 5) (hfin : ∀ (pc : Nat) (H : Heap) (ls : Array Slot) (locs : List Loc), decode code pc = .ok (.ireturn, 1) → pS G s.heap H locs → W p l e room_1 s m args below meth c H locs 600086 7301442 Q (F0 m pc ls [.int (nI 1)])) : ∀ (ν : Mm), bOK many all ν → ∀ (ls : Array Slot) (H : Heap) (locs : List Loc), xM G ν [(C, aI G 2 (cntA many all))] H → pS G s.heap H locs → lv_has ls 17 [(4, .ref C), (1, .ref (ra G 0)), (0, .ref b)] → W p l e room_1 s m args below meth c H locs 600086 7301442 Q (F0 m 37 ls []) := by
  intro ν hB ls H locs hM hS hl
  refine lv_aload_n X.1 X.2.1 dL_law_37 rfl (lv_at hl 1 rfl) ?_
  refine lv_aload_n X.1 X.2.1 dL_law_38 rfl (lv_at hl 2 rfl) ?_
  refine tn_bi (v := 8) X dL_law_39 (by decide) ?_
  refine kLS (As := [_, _]) hasX.calling (hX.go hb hS) X hM hS hl.1 (c_L_cell (k := _) (by omega)) kl_L_9 mf_L_cell ⟨Nat.le_of_ble_eq_true rfl, Nat.le_of_ble_eq_true rfl⟩ ⟨Nat.le_refl _, Nat.le_refl _⟩ rfl (Nat.le_of_ble_eq_true rfl) dL_law_41 (fun z41 H locs _ hM hS _ _ => ?_)
  refine tn_si (v := 400) X dL_law_44 (by decide) ?_
  refine kLS (As := [_, _]) (fun _ _ _ _ h => h) (fun _ _ _ => trivial) X hM hS hl.1 (c_L_below (n := _) (by omega) (by omega)) kl_L_15 mf_L_below ⟨Nat.le_of_ble_eq_true rfl, Nat.le_of_ble_eq_true rfl⟩ ⟨Nat.le_refl _, Nat.le_refl _⟩ rfl (Nat.le_of_ble_eq_true rfl) dL_law_47 (fun z47 H locs hz47 hM hS _ _ => ?_)
  obtain ⟨q47, hq47, rfl⟩ := hz47
  refine lv_aload_n X.1 X.2.1 dL_law_50 rfl (lv_at hl 2 rfl) ?_
  refine tn_bi (v := 8) X dL_law_51 (by decide) ?_
  refine kLS (As := [_, _]) hasX.calling (hX.go hb hS) X hM hS hl.1 (c_L_cell (k := _) (by omega)) kl_L_9 mf_L_cell ⟨Nat.le_of_ble_eq_true rfl, Nat.le_of_ble_eq_true rfl⟩ ⟨Nat.le_refl _, Nat.le_refl _⟩ rfl (Nat.le_of_ble_eq_true rfl) dL_law_53 (fun z53 H locs _ hM hS _ _ => ?_)
  refine tn_ic (v := 5) X dL_law_56 (by decide) ?_
  refine tn_sar X dL_law_57 (fun z57 => ?_)
  refine tn_si (v := 2500) X dL_law_58 (by decide) ?_
  refine kLS (As := [_, _]) (fun _ _ _ _ h => h) (fun _ _ _ => trivial) X hM hS hl.1 (c_L_below (n := _) (by omega) (by omega)) kl_L_15 mf_L_below ⟨Nat.le_of_ble_eq_true rfl, Nat.le_of_ble_eq_true rfl⟩ ⟨Nat.le_refl _, Nat.le_refl _⟩ rfl (Nat.le_of_ble_eq_true rfl) dL_law_61 (fun z61 H locs hz61 hM hS _ _ => ?_)
  obtain ⟨q61, hq61, rfl⟩ := hz61
  refine kLD (As := [_, _]) X hM hS hl.1 (c_X5_setShipping (by omega) (by omega)) rfl kl_L_60 mf_X5_setShipping ⟨Nat.le_of_ble_eq_true rfl, Nat.le_of_ble_eq_true rfl⟩ ⟨Nat.le_refl _, Nat.le_refl _⟩ rfl (Nat.le_of_ble_eq_true rfl) dL_law_64 (fun r64 ν64 H locs hp64 hM hS => ?_)
  obtain ⟨e64, rfl⟩ := hp64
  refine lv_pop X.1 X.2.1 dL_law_67 rfl ?_
  exact t_68 X hX hb hm1 hm5 ha5 hfin _ (hB.ship (by omega) (by omega)) ls H locs hM hS (lv_sub hl [0, 1, 2] rfl)
