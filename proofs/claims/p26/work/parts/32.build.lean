/-! ===== the law's build ===== -/
abbrev bWS (G : dG) (A B : Nat) (f g : Nat → Nat) : va_W := [(A, aI G 30 f), (B, aI G 48 g)]
abbrev bPc (G : dG) (b A B : Nat) (f g : Nat → Nat) : Array Value → State → Prop := va_Pc [.ref (ra G 0), .ref b, .int (nI 0), .int (nI 5), .int (nI 5), .ref A, .ref B] (fun U => xM G nu0 (bWS G A B f g) U.heap ∧ dK G U ∧ hasX b U ∧ b < G.2.2)
abbrev cntA (many all : Nat) : Nat → Nat := va_up (va_up (fun _ => 0) 0 many) 1 all
abbrev bQ (G : dG) : Array Value → State → Outcome → State → Prop := va_Qr (fun u : Mm × Nat × Nat => 1 ≤ u.2.1 ∧ u.2.1 ≤ 5 ∧ u.2.2 ≤ 5 ∧ bOK u.2.1 u.2.2 u.1) (fun u a t => xM G u.1 [(a, aI G 2 (cntA u.2.1 u.2.2))] t.heap) (pA G)
theorem xM.third {G : dG} {ν : Mm} {x y z : Nat × va_E} {H : Heap} (h : xM G ν [x, y, z] H) : xM G ν [z] H := by
  obtain ⟨h1, h2, h3, h4, h5⟩ := h
  refine ⟨h1, h2.sub [2] rfl, h3.sub [2] rfl rfl, fun k q hk => h4 2 q ?_, h5⟩
  have hk0 : k = 0 := by have := (List.getElem?_eq_some_iff.mp hk).1; simp at this; omega
  subst hk0; exact hk
theorem bOK.many_le {m c : Nat} {ν : Mm} (h : bOK m c ν) : ν 0 5 = m ∧ ν 0 6 = c := ⟨h.2.1, h.2.2.1⟩
set_option maxHeartbeats 8000000 in
set_option maxRecDepth 100000 in
theorem b_L_build {l : Launch} {G : dG} {b A B : Nat} {f0 g0 : Nat → Nat} (p : Program) (e : Env) (s : State) (m : MethodId) (args : Array Value) (below : List Frame) (meth : Method) (c : Code) (ls : Array Slot) (X : dC p s m args c cL_build 12 RL G) (hM : xM G nu0 (bWS G A B f0 g0) s.heap) (hX : hasX b s) (hb : b < G.2.2) (hret : meth.sig.returnType = some (.array .int)) (hlk : meth.locks = false) (hl : lv_has ls 12 [(0, .ref (ra G 0)), (1, .ref b), (2, .int (nI 0)), (3, .int (nI 5)), (4, .int (nI 5)), (5, .ref A), (6, .ref B)]) : W p l e (rmC 3 1 2) s m args below meth c s.heap [] 0 0 (MQ below (bQ G) args s 1 2 (pA G)) (F0 m 0 ls []) := by
  have hS : pS G s.heap s.heap [] := va_S.rf

  have T480 : ∀ (many all : Nat) (ν : Mm) (f g : Nat → Nat), 1 ≤ many → many ≤ 5 → all ≤ 5 → bOK many all ν → ∀ (ls : Array Slot) (H : Heap) (locs : List Loc), xM G ν (bWS G A B f g) H → pS G s.heap H locs → lv_has ls 12 [(7, .int (nI many)), (8, .int (nI all))] → W p l e (rmC 3 1 2) s m args below meth c H locs 0 0 (MQ below (bQ G) args s 1 2 (pA G)) (F0 m 480 ls []) := by
    intro many all ν f g hm1 hm5 ha5 hB ls H locs hM hS hl
    refine tn_ic (v := 2) X dL_build_480 (by decide) ?_
    refine x_newI (ws' := fun a => [(A, aI G 30 f), (B, aI G 48 g), (a, aI G 2 (fun _ => 0))]) X hM hS (by decide) (Nat.le_of_ble_eq_true rfl) (Nat.le_of_ble_eq_true rfl) (fun _ => rfl) dL_build_481 (fun a H hM hS => ?_)
    refine lv_dup X.1 X.2.1 dL_build_483 rfl ?_
    refine tn_ic (v := 0) X dL_build_484 (by decide) ?_
    refine lv_iload X.1 X.2.1 dL_build_485 (lv_at hl 0 rfl) ?_
    refine x_iast (q := 2) X hM hS rfl (by omega) (by decide) rfl dL_build_487 (fun H locs hM hS => ?_)
    replace hM : xM G ν [(A, aI G 30 f), (B, aI G 48 g), (a, aI G 2 (va_up (fun _ => 0) 0 many))] H := hM
    refine lv_dup X.1 X.2.1 dL_build_488 rfl ?_
    refine tn_ic (v := 1) X dL_build_489 (by decide) ?_
    refine lv_iload X.1 X.2.1 dL_build_490 (lv_at hl 1 rfl) ?_
    refine x_iast (q := 2) X hM hS rfl (by omega) (by decide) rfl dL_build_492 (fun H locs hM hS => ?_)
    replace hM : xM G ν [(A, aI G 30 f), (B, aI G 48 g), (a, aI G 2 (cntA many all))] H := hM
    exact W.aret X.1 X.2.1 hret (Or.inr ⟨_, rfl⟩) (Or.inr ⟨_, rfl⟩) (fun t ht hW => ⟨⟨(ν, many, all), a, rfl, ⟨hm1, hm5, ha5, hB⟩, by show xM G ν _ t.heap; rw [ht]; exact hM.third⟩, hS.F ht⟩) hS.2.2 dL_build_493 hlk
  have L2 : ∀ (k c1 many all : Nat) (ν : Mm) (f g : Nat → Nat), c1 + k = all → all ≤ 5 → 1 ≤ many → many ≤ 5 → bOK many c1 ν → ∀ (ls : Array Slot) (H : Heap) (locs : List Loc), xM G ν (bWS G A B f g) H → pS G s.heap H locs → lv_has ls 12 [(9, .int (nI c1)), (8, .int (nI all)), (0, .ref (ra G 0)), (1, .ref b), (2, .int (nI 0)), (4, .int (nI 5)), (5, .ref A), (6, .ref B), (7, .int (nI many))] → W p l e (rmC 3 1 2) s m args below meth c H locs 0 0 (MQ below (bQ G) args s 1 2 (pA G)) (F0 m 192 ls []) := by
    intro k
    induction k with
    | zero =>
      intro c1 many all ν f g hk ha5 hm1 hm5 hB ls H locs hM hS hl
      refine lv_iload X.1 X.2.1 dL_build_192 (lv_at hl 0 rfl) ?_
      refine lv_iload X.1 X.2.1 dL_build_194 (lv_at hl 1 rfl) ?_
      refine tn_ge (tgt := 480) X dL_build_196 (by decide) (by omega) (by omega) (fun h196 => ?_) (fun h196 => ?_)
      · exact T480 many all ν f g hm1 hm5 ha5 (by rw [show all = c1 by omega]; exact hB) ls H locs hM hS (lv_sub hl [8, 1] rfl)
      · exfalso; omega
    | succ k ih =>
      intro c1 many all ν f g hk ha5 hm1 hm5 hB ls H locs hM hS hl
      have K421 : ∀ (w : Int32) (g : Nat → Nat), vk (g (6 * c1)) (g (6 * c1 + 1)) → (1 ≤ g (6 * c1 + 2) ∧ g (6 * c1 + 2) ≤ 255) → g (6 * c1 + 3) ≤ 900 → g (6 * c1 + 4) ≤ 3 → ∀ (ls : Array Slot) (H : Heap) (locs : List Loc), xM G ν (bWS G A B f g) H → pS G s.heap H locs → lv_has ls 12 [(11, .int (nI (6 * c1))), (10, .int w), (9, .int (nI c1)), (8, .int (nI all)), (0, .ref (ra G 0)), (1, .ref b), (2, .int (nI 0)), (4, .int (nI 5)), (5, .ref A), (6, .ref B), (7, .int (nI many))] → W p l e (rmC 3 1 2) s m args below meth c H locs 0 0 (MQ below (bQ G) args s 1 2 (pA G)) (F0 m 421 ls []) := by
        intro w g hf0 hf1 hf2 hf3 ls H locs hM hS hl
        refine lv_aload X.1 X.2.1 dL_build_421 (lv_at hl 9 rfl) ?_
        refine lv_iload X.1 X.2.1 dL_build_423 (lv_at hl 0 rfl) ?_
        refine tn_ic (v := 5) X dL_build_425 (by decide) ?_
        refine tn_add X dL_build_426 ?_
        refine tn_bi (v := 9) X dL_build_427 (by decide) ?_
        refine x_iast (q := 1) X hM hS rfl (by omega) (by decide) rfl dL_build_429 (fun H locs hM hS => ?_)
        replace hM : xM G _ (bWS G A B _ _) H := hM
        refine lv_aload_n X.1 X.2.1 dL_build_430 rfl (lv_at hl 4 rfl) ?_
        refine lv_aload X.1 X.2.1 dL_build_431 (lv_at hl 9 rfl) ?_
        refine lv_iload X.1 X.2.1 dL_build_433 (lv_at hl 0 rfl) ?_
        refine x_iald (q := 1) X hM rfl (by omega) (by decide) dL_build_435 ?_
        refine tn_as (show _ = g (6 * c1) from va_up_ne _ _ (show 6 * c1 ≠ 6 * c1 + 5 by omega)) ?_
        refine lv_aload X.1 X.2.1 dL_build_436 (lv_at hl 9 rfl) ?_
        refine lv_iload X.1 X.2.1 dL_build_438 (lv_at hl 0 rfl) ?_
        refine tn_ic (v := 1) X dL_build_440 (by decide) ?_
        refine tn_add X dL_build_441 ?_
        refine x_iald (q := 1) X hM rfl (by omega) (by decide) dL_build_442 ?_
        refine tn_as (show _ = g (6 * c1 + 1) from va_up_ne _ _ (show 6 * c1 + 1 ≠ 6 * c1 + 5 by omega)) ?_
        refine lv_aload X.1 X.2.1 dL_build_443 (lv_at hl 9 rfl) ?_
        refine lv_iload X.1 X.2.1 dL_build_445 (lv_at hl 0 rfl) ?_
        refine tn_ic (v := 2) X dL_build_447 (by decide) ?_
        refine tn_add X dL_build_448 ?_
        refine x_iald (q := 1) X hM rfl (by omega) (by decide) dL_build_449 ?_
        refine tn_as (show _ = g (6 * c1 + 2) from va_up_ne _ _ (show 6 * c1 + 2 ≠ 6 * c1 + 5 by omega)) ?_
        refine lv_aload X.1 X.2.1 dL_build_450 (lv_at hl 9 rfl) ?_
        refine lv_iload X.1 X.2.1 dL_build_452 (lv_at hl 0 rfl) ?_
        refine tn_ic (v := 3) X dL_build_454 (by decide) ?_
        refine tn_add X dL_build_455 ?_
        refine x_iald (q := 1) X hM rfl (by omega) (by decide) dL_build_456 ?_
        refine tn_as (show _ = g (6 * c1 + 3) from va_up_ne _ _ (show 6 * c1 + 3 ≠ 6 * c1 + 5 by omega)) ?_
        refine lv_aload X.1 X.2.1 dL_build_457 (lv_at hl 9 rfl) ?_
        refine lv_iload X.1 X.2.1 dL_build_459 (lv_at hl 0 rfl) ?_
        refine tn_ic (v := 4) X dL_build_461 (by decide) ?_
        refine tn_add X dL_build_462 ?_
        refine x_iald (q := 1) X hM rfl (by omega) (by decide) dL_build_463 ?_
        refine tn_as (show _ = g (6 * c1 + 4) from va_up_ne _ _ (show 6 * c1 + 4 ≠ 6 * c1 + 5 by omega)) ?_
        refine kLD (As := [_, _, _, _, _]) X hM hS hl.1 (c_X5_addCoupon hB.1 hf0 hf1.1 hf1.2 (by omega) hf3 (by have := hB.2.2.1; omega)) rfl kl_L_27 mf_X5_addCoupon ⟨Nat.le_of_ble_eq_true rfl, Nat.le_of_ble_eq_true rfl⟩ ⟨Nat.zero_le _, Nat.zero_le _⟩ rfl (Nat.le_of_ble_eq_true rfl) dL_build_464 (fun r464 ν464 H locs hp464 hM hS => ?_)
        obtain ⟨e464, rfl⟩ := hp464
        refine tn_as (show r464 = c1 from e464.trans hB.2.2.1) ?_
        refine lv_iload X.1 X.2.1 dL_build_467 (lv_at hl 2 rfl) ?_
        refine tn_eq (tgt := 474) X dL_build_469 (by decide) (by omega) (by omega) (fun h469 => ?_) (fun h469 => ?_)
        · refine tn_inc (k := 2) (w := 1) X dL_build_474 hl rfl (by decide) (by decide) rfl (fun ls hl => ?_)
          replace hl : lv_has ls 12 [(9, _), (11, _), (10, _), (8, _), (0, _), (1, _), (2, _), (4, _), (5, _), (6, _), (7, _)] := hl
          refine lv_goto (tgt := 192) X.1 X.2.1 dL_build_477 (by decide) ?_
          exact ih (c1 + 1) many all _ f _ (by omega) ha5 hm1 hm5 (hB.cou (by omega) hf0 hf1.2 (by omega) hf3) ls H locs hM hS (lv_sub hl [0, 3, 4, 5, 6, 7, 8, 9, 10] rfl)
        · exfalso; omega
      have K387 : ∀ (w : Int32) (g : Nat → Nat), vk (g (6 * c1)) (g (6 * c1 + 1)) → (1 ≤ g (6 * c1 + 2) ∧ g (6 * c1 + 2) ≤ 255) → g (6 * c1 + 3) ≤ 900 → ∀ (ls : Array Slot) (H : Heap) (locs : List Loc), xM G ν (bWS G A B f g) H → pS G s.heap H locs → lv_has ls 12 [(11, .int (nI (6 * c1))), (10, .int w), (9, .int (nI c1)), (8, .int (nI all)), (0, .ref (ra G 0)), (1, .ref b), (2, .int (nI 0)), (4, .int (nI 5)), (5, .ref A), (6, .ref B), (7, .int (nI many))] → W p l e (rmC 3 1 2) s m args below meth c H locs 0 0 (MQ below (bQ G) args s 1 2 (pA G)) (F0 m 387 ls []) := by
        intro w g hf0 hf1 hf2 ls H locs hM hS hl
        refine lv_aload X.1 X.2.1 dL_build_387 (lv_at hl 9 rfl) ?_
        refine lv_iload X.1 X.2.1 dL_build_389 (lv_at hl 0 rfl) ?_
        refine tn_ic (v := 4) X dL_build_391 (by decide) ?_
        refine tn_add X dL_build_392 ?_
        refine lv_iload X.1 X.2.1 dL_build_393 (lv_at hl 1 rfl) ?_
        refine tn_bi (v := 11) X dL_build_395 (by decide) ?_
        refine tn_sar X dL_build_397 (fun z397 => ?_)
        refine tn_ic (v := 3) X dL_build_398 (by decide) ?_
        refine kLS (As := [_, _]) (fun _ _ _ _ h => h) (fun _ _ _ => trivial) X hM hS hl.1 (c_L_below (n := _) (by omega) (by omega)) kl_L_15 mf_L_below ⟨Nat.le_of_ble_eq_true rfl, Nat.le_of_ble_eq_true rfl⟩ ⟨Nat.zero_le _, Nat.zero_le _⟩ rfl (Nat.le_of_ble_eq_true rfl) dL_build_399 (fun z399 H locs hz399 hM hS _ _ => ?_)
        obtain ⟨q399, hq399, rfl⟩ := hz399
        refine tn_ne0 (tgt := 419) X dL_build_402 (by decide) (by omega) (fun h402 => ?_) (fun h402 => ?_)
        · refine tn_ic (v := 0) X dL_build_419 (by decide) ?_
          refine x_iast (q := 1) X hM hS rfl (by omega) (by decide) rfl dL_build_420 (fun H locs hM hS => ?_)
          replace hM : xM G _ (bWS G A B _ _) H := hM
          exact K421 _ _ (by rw [va_up_ne _ _ (show 6 * c1 ≠ 6 * c1 + 4 by omega), va_up_ne _ _ (show 6 * c1 + 1 ≠ 6 * c1 + 4 by omega)]; exact hf0) (by rw [va_up_ne _ _ (show 6 * c1 + 2 ≠ 6 * c1 + 4 by omega)]; exact hf1) (by rw [va_up_ne _ _ (show 6 * c1 + 3 ≠ 6 * c1 + 4 by omega)]; exact hf2) (by rw [va_up_self]; omega) ls H locs hM hS (lv_sub hl [0, 1, 2, 3, 4, 5, 6, 7, 8, 9, 10] rfl)
        · refine tn_ic (v := 1) X dL_build_405 (by decide) ?_
          refine lv_iload X.1 X.2.1 dL_build_406 (lv_at hl 1 rfl) ?_
          refine tn_bi (v := 12) X dL_build_408 (by decide) ?_
          refine tn_sar X dL_build_410 (fun z410 => ?_)
          refine tn_ic (v := 3) X dL_build_411 (by decide) ?_
          refine kLS (As := [_, _]) (fun _ _ _ _ h => h) (fun _ _ _ => trivial) X hM hS hl.1 (c_L_below (n := _) (by omega) (by omega)) kl_L_15 mf_L_below ⟨Nat.le_of_ble_eq_true rfl, Nat.le_of_ble_eq_true rfl⟩ ⟨Nat.zero_le _, Nat.zero_le _⟩ rfl (Nat.le_of_ble_eq_true rfl) dL_build_412 (fun z412 H locs hz412 hM hS _ _ => ?_)
          obtain ⟨q412, hq412, rfl⟩ := hz412
          refine tn_add X dL_build_415 ?_
          refine lv_goto (tgt := 420) X.1 X.2.1 dL_build_416 (by decide) ?_
          refine x_iast (q := 1) X hM hS rfl (by omega) (by decide) rfl dL_build_420 (fun H locs hM hS => ?_)
          replace hM : xM G _ (bWS G A B _ _) H := hM
          exact K421 _ _ (by rw [va_up_ne _ _ (show 6 * c1 ≠ 6 * c1 + 4 by omega), va_up_ne _ _ (show 6 * c1 + 1 ≠ 6 * c1 + 4 by omega)]; exact hf0) (by rw [va_up_ne _ _ (show 6 * c1 + 2 ≠ 6 * c1 + 4 by omega)]; exact hf1) (by rw [va_up_ne _ _ (show 6 * c1 + 3 ≠ 6 * c1 + 4 by omega)]; exact hf2) (by rw [va_up_self]; omega) ls H locs hM hS (lv_sub hl [0, 1, 2, 3, 4, 5, 6, 7, 8, 9, 10] rfl)
      have K353 : ∀ (w : Int32) (g : Nat → Nat), vk (g (6 * c1)) (g (6 * c1 + 1)) → (1 ≤ g (6 * c1 + 2) ∧ g (6 * c1 + 2) ≤ 255) → ∀ (ls : Array Slot) (H : Heap) (locs : List Loc), xM G ν (bWS G A B f g) H → pS G s.heap H locs → lv_has ls 12 [(11, .int (nI (6 * c1))), (10, .int w), (9, .int (nI c1)), (8, .int (nI all)), (0, .ref (ra G 0)), (1, .ref b), (2, .int (nI 0)), (4, .int (nI 5)), (5, .ref A), (6, .ref B), (7, .int (nI many))] → W p l e (rmC 3 1 2) s m args below meth c H locs 0 0 (MQ below (bQ G) args s 1 2 (pA G)) (F0 m 353 ls []) := by
        intro w g hf0 hf1 ls H locs hM hS hl
        refine lv_aload X.1 X.2.1 dL_build_353 (lv_at hl 9 rfl) ?_
        refine lv_iload X.1 X.2.1 dL_build_355 (lv_at hl 0 rfl) ?_
        refine tn_ic (v := 3) X dL_build_357 (by decide) ?_
        refine tn_add X dL_build_358 ?_
        refine lv_iload X.1 X.2.1 dL_build_359 (lv_at hl 1 rfl) ?_
        refine tn_bi (v := 8) X dL_build_361 (by decide) ?_
        refine tn_sar X dL_build_363 (fun z363 => ?_)
        refine tn_ic (v := 2) X dL_build_364 (by decide) ?_
        refine kLS (As := [_, _]) (fun _ _ _ _ h => h) (fun _ _ _ => trivial) X hM hS hl.1 (c_L_below (n := _) (by omega) (by omega)) kl_L_15 mf_L_below ⟨Nat.le_of_ble_eq_true rfl, Nat.le_of_ble_eq_true rfl⟩ ⟨Nat.zero_le _, Nat.zero_le _⟩ rfl (Nat.le_of_ble_eq_true rfl) dL_build_365 (fun z365 H locs hz365 hM hS _ _ => ?_)
        obtain ⟨q365, hq365, rfl⟩ := hz365
        refine tn_ne0 (tgt := 375) X dL_build_368 (by decide) (by omega) (fun h368 => ?_) (fun h368 => ?_)
        · refine lv_iload X.1 X.2.1 dL_build_375 (lv_at hl 1 rfl) ?_
          refine tn_bi (v := 9) X dL_build_377 (by decide) ?_
          refine tn_sar X dL_build_379 (fun z379 => ?_)
          refine tn_si (v := 900) X dL_build_380 (by decide) ?_
          refine kLS (As := [_, _]) (fun _ _ _ _ h => h) (fun _ _ _ => trivial) X hM hS hl.1 (c_L_below (n := _) (by omega) (by omega)) kl_L_15 mf_L_below ⟨Nat.le_of_ble_eq_true rfl, Nat.le_of_ble_eq_true rfl⟩ ⟨Nat.zero_le _, Nat.zero_le _⟩ rfl (Nat.le_of_ble_eq_true rfl) dL_build_383 (fun z383 H locs hz383 hM hS _ _ => ?_)
          obtain ⟨q383, hq383, rfl⟩ := hz383
          refine x_iast (q := 1) X hM hS rfl (by omega) (by decide) rfl dL_build_386 (fun H locs hM hS => ?_)
          replace hM : xM G _ (bWS G A B _ _) H := hM
          exact K387 _ _ (by rw [va_up_ne _ _ (show 6 * c1 ≠ 6 * c1 + 3 by omega), va_up_ne _ _ (show 6 * c1 + 1 ≠ 6 * c1 + 3 by omega)]; exact hf0) (by rw [va_up_ne _ _ (show 6 * c1 + 2 ≠ 6 * c1 + 3 by omega)]; exact hf1) (by rw [va_up_self]; omega) ls H locs hM hS (lv_sub hl [0, 1, 2, 3, 4, 5, 6, 7, 8, 9, 10] rfl)
        · refine tn_ic (v := 0) X dL_build_371 (by decide) ?_
          refine lv_goto (tgt := 386) X.1 X.2.1 dL_build_372 (by decide) ?_
          refine x_iast (q := 1) X hM hS rfl (by omega) (by decide) rfl dL_build_386 (fun H locs hM hS => ?_)
          replace hM : xM G _ (bWS G A B _ _) H := hM
          exact K387 _ _ (by rw [va_up_ne _ _ (show 6 * c1 ≠ 6 * c1 + 3 by omega), va_up_ne _ _ (show 6 * c1 + 1 ≠ 6 * c1 + 3 by omega)]; exact hf0) (by rw [va_up_ne _ _ (show 6 * c1 + 2 ≠ 6 * c1 + 3 by omega)]; exact hf1) (by rw [va_up_self]; omega) ls H locs hM hS (lv_sub hl [0, 1, 2, 3, 4, 5, 6, 7, 8, 9, 10] rfl)
      have K317 : ∀ (w : Int32) (g : Nat → Nat), vk (g (6 * c1)) (g (6 * c1 + 1)) → ∀ (ls : Array Slot) (H : Heap) (locs : List Loc), xM G ν (bWS G A B f g) H → pS G s.heap H locs → lv_has ls 12 [(11, .int (nI (6 * c1))), (10, .int w), (9, .int (nI c1)), (8, .int (nI all)), (0, .ref (ra G 0)), (1, .ref b), (2, .int (nI 0)), (4, .int (nI 5)), (5, .ref A), (6, .ref B), (7, .int (nI many))] → W p l e (rmC 3 1 2) s m args below meth c H locs 0 0 (MQ below (bQ G) args s 1 2 (pA G)) (F0 m 317 ls []) := by
        intro w g hf0 ls H locs hM hS hl
        refine lv_aload X.1 X.2.1 dL_build_317 (lv_at hl 9 rfl) ?_
        refine lv_iload X.1 X.2.1 dL_build_319 (lv_at hl 0 rfl) ?_
        refine tn_ic (v := 2) X dL_build_321 (by decide) ?_
        refine tn_add X dL_build_322 ?_
        refine lv_iload X.1 X.2.1 dL_build_323 (lv_at hl 1 rfl) ?_
        refine tn_ic (v := 5) X dL_build_325 (by decide) ?_
        refine tn_sar X dL_build_326 (fun z326 => ?_)
        refine tn_ic (v := 2) X dL_build_327 (by decide) ?_
        refine kLS (As := [_, _]) (fun _ _ _ _ h => h) (fun _ _ _ => trivial) X hM hS hl.1 (c_L_below (n := _) (by omega) (by omega)) kl_L_15 mf_L_below ⟨Nat.le_of_ble_eq_true rfl, Nat.le_of_ble_eq_true rfl⟩ ⟨Nat.zero_le _, Nat.zero_le _⟩ rfl (Nat.le_of_ble_eq_true rfl) dL_build_328 (fun z328 H locs hz328 hM hS _ _ => ?_)
        obtain ⟨q328, hq328, rfl⟩ := hz328
        refine tn_ne0 (tgt := 340) X dL_build_331 (by decide) (by omega) (fun h331 => ?_) (fun h331 => ?_)
        · refine tn_ic (v := 1) X dL_build_340 (by decide) ?_
          refine lv_iload X.1 X.2.1 dL_build_341 (lv_at hl 1 rfl) ?_
          refine tn_bi (v := 6) X dL_build_343 (by decide) ?_
          refine tn_sar X dL_build_345 (fun z345 => ?_)
          refine tn_bi (v := 7) X dL_build_346 (by decide) ?_
          refine kLS (As := [_, _]) (fun _ _ _ _ h => h) (fun _ _ _ => trivial) X hM hS hl.1 (c_L_below (n := _) (by omega) (by omega)) kl_L_15 mf_L_below ⟨Nat.le_of_ble_eq_true rfl, Nat.le_of_ble_eq_true rfl⟩ ⟨Nat.zero_le _, Nat.zero_le _⟩ rfl (Nat.le_of_ble_eq_true rfl) dL_build_348 (fun z348 H locs hz348 hM hS _ _ => ?_)
          obtain ⟨q348, hq348, rfl⟩ := hz348
          refine tn_add X dL_build_351 ?_
          refine x_iast (q := 1) X hM hS rfl (by omega) (by decide) rfl dL_build_352 (fun H locs hM hS => ?_)
          replace hM : xM G _ (bWS G A B _ _) H := hM
          exact K353 _ _ (by rw [va_up_ne _ _ (show 6 * c1 ≠ 6 * c1 + 2 by omega), va_up_ne _ _ (show 6 * c1 + 1 ≠ 6 * c1 + 2 by omega)]; exact hf0) (by rw [va_up_self]; omega) ls H locs hM hS (lv_sub hl [0, 1, 2, 3, 4, 5, 6, 7, 8, 9, 10] rfl)
        · refine tn_si (v := 255) X dL_build_334 (by decide) ?_
          refine lv_goto (tgt := 352) X.1 X.2.1 dL_build_337 (by decide) ?_
          refine x_iast (q := 1) X hM hS rfl (by omega) (by decide) rfl dL_build_352 (fun H locs hM hS => ?_)
          replace hM : xM G _ (bWS G A B _ _) H := hM
          exact K353 _ _ (by rw [va_up_ne _ _ (show 6 * c1 ≠ 6 * c1 + 2 by omega), va_up_ne _ _ (show 6 * c1 + 1 ≠ 6 * c1 + 2 by omega)]; exact hf0) (by rw [va_up_self]; omega) ls H locs hM hS (lv_sub hl [0, 1, 2, 3, 4, 5, 6, 7, 8, 9, 10] rfl)
      refine lv_iload X.1 X.2.1 dL_build_192 (lv_at hl 0 rfl) ?_
      refine lv_iload X.1 X.2.1 dL_build_194 (lv_at hl 1 rfl) ?_
      refine tn_ge (tgt := 480) X dL_build_196 (by decide) (by omega) (by omega) (fun h196 => ?_) (fun h196 => ?_)
      · exfalso; omega
      · refine lv_aload_n X.1 X.2.1 dL_build_199 rfl (lv_at hl 3 rfl) ?_
        refine lv_iload_n X.1 X.2.1 dL_build_200 rfl (lv_at hl 4 rfl) ?_
        refine tn_ic (v := 4) X dL_build_201 (by decide) ?_
        refine tn_add X dL_build_202 ?_
        refine lv_iload X.1 X.2.1 dL_build_203 (lv_at hl 0 rfl) ?_
        refine tn_ic (v := 4) X dL_build_205 (by decide) ?_
        refine tn_rem X dL_build_206 (by omega) (by omega) (by omega) ?_
        refine tn_add X dL_build_207 ?_
        refine kLS (As := [_, _]) hasX.calling (hX.go hb hS) X hM hS hl.1 (c_L_cell (k := _) (by omega)) kl_L_9 mf_L_cell ⟨Nat.le_of_ble_eq_true rfl, Nat.le_of_ble_eq_true rfl⟩ ⟨Nat.zero_le _, Nat.zero_le _⟩ rfl (Nat.le_of_ble_eq_true rfl) dL_build_208 (fun z208 H locs _ hM hS _ _ => ?_)
        refine lv_iload X.1 X.2.1 dL_build_211 (lv_at hl 0 rfl) ?_
        refine tn_ic (v := 4) X dL_build_213 (by decide) ?_
        refine tn_div X dL_build_214 (by omega) (by omega) (by omega) ?_
        refine tn_bi (v := 10) X dL_build_215 (by decide) ?_
        refine tn_mul X dL_build_217 ?_
        refine tn_sar X dL_build_218 (fun z218 => ?_)
        refine lv_istore X.1 X.2.1 dL_build_219 hl (by decide) rfl (fun ls hl => ?_)
        replace hl : lv_has ls 12 [(10, _), (9, _), (8, _), (0, _), (1, _), (2, _), (4, _), (5, _), (6, _), (7, _)] := hl
        refine tn_bi (v := 6) X dL_build_221 (by decide) ?_
        refine lv_iload X.1 X.2.1 dL_build_223 (lv_at hl 1 rfl) ?_
        refine tn_mul X dL_build_225 ?_
        refine lv_istore X.1 X.2.1 dL_build_226 hl (by decide) rfl (fun ls hl => ?_)
        replace hl : lv_has ls 12 [(11, _), (10, _), (9, _), (8, _), (0, _), (1, _), (2, _), (4, _), (5, _), (6, _), (7, _)] := hl
        refine lv_aload X.1 X.2.1 dL_build_228 (lv_at hl 9 rfl) ?_
        refine lv_iload X.1 X.2.1 dL_build_230 (lv_at hl 0 rfl) ?_
        refine lv_iload X.1 X.2.1 dL_build_232 (lv_at hl 1 rfl) ?_
        refine tn_ic (v := 5) X dL_build_234 (by decide) ?_
        refine kLS (As := [_, _]) (fun _ _ _ _ h => h) (fun _ _ _ => trivial) X hM hS hl.1 (c_L_below (n := _) (by omega) (by omega)) kl_L_15 mf_L_below ⟨Nat.le_of_ble_eq_true rfl, Nat.le_of_ble_eq_true rfl⟩ ⟨Nat.zero_le _, Nat.zero_le _⟩ rfl (Nat.le_of_ble_eq_true rfl) dL_build_235 (fun z235 H locs hz235 hM hS _ _ => ?_)
        obtain ⟨q235, hq235, rfl⟩ := hz235
        refine tn_ic (v := 4) X dL_build_238 (by decide) ?_
        refine tn_rem X dL_build_239 (by omega) (by omega) (by omega) ?_
        refine x_iast (q := 1) X hM hS rfl (by omega) (by decide) rfl dL_build_240 (fun H locs hM hS => ?_)
        replace hM : xM G _ (bWS G A B _ _) H := hM
        refine lv_aload X.1 X.2.1 dL_build_241 (lv_at hl 9 rfl) ?_
        refine lv_iload X.1 X.2.1 dL_build_243 (lv_at hl 0 rfl) ?_
        refine tn_ic (v := 1) X dL_build_245 (by decide) ?_
        refine tn_add X dL_build_246 ?_
        refine lv_aload X.1 X.2.1 dL_build_247 (lv_at hl 9 rfl) ?_
        refine lv_iload X.1 X.2.1 dL_build_249 (lv_at hl 0 rfl) ?_
        refine x_iald (q := 1) X hM rfl (by omega) (by decide) dL_build_251 ?_
        refine tn_as (show _ = q235 % 4 from va_up_self _ _ _) ?_
        refine tn_ne0 (tgt := 269) X dL_build_252 (by decide) (by omega) (fun h252 => ?_) (fun h252 => ?_)
        · refine lv_aload X.1 X.2.1 dL_build_269 (lv_at hl 9 rfl) ?_
          refine lv_iload X.1 X.2.1 dL_build_271 (lv_at hl 0 rfl) ?_
          refine x_iald (q := 1) X hM rfl (by omega) (by decide) dL_build_273 ?_
          refine tn_as (show _ = q235 % 4 from va_up_self _ _ _) ?_
          refine tn_ic (v := 1) X dL_build_274 (by decide) ?_
          refine tn_ne (tgt := 293) X dL_build_275 (by decide) (by omega) (by omega) (fun h275 => ?_) (fun h275 => ?_)
          · refine lv_aload X.1 X.2.1 dL_build_293 (lv_at hl 9 rfl) ?_
            refine lv_iload X.1 X.2.1 dL_build_295 (lv_at hl 0 rfl) ?_
            refine x_iald (q := 1) X hM rfl (by omega) (by decide) dL_build_297 ?_
            refine tn_as (show _ = q235 % 4 from va_up_self _ _ _) ?_
            refine tn_ic (v := 2) X dL_build_298 (by decide) ?_
            refine tn_ne (tgt := 315) X dL_build_299 (by decide) (by omega) (by omega) (fun h299 => ?_) (fun h299 => ?_)
            · refine tn_ic (v := 0) X dL_build_315 (by decide) ?_
              refine x_iast (q := 1) X hM hS rfl (by omega) (by decide) rfl dL_build_316 (fun H locs hM hS => ?_)
              replace hM : xM G _ (bWS G A B _ _) H := hM
              exact K317 _ _ (by rw [va_up_ne _ _ (show 6 * c1 ≠ 6 * c1 + 1 by omega), va_up_self, va_up_self]; unfold vk; omega) ls H locs hM hS (lv_sub hl [0, 1, 2, 3, 4, 5, 6, 7, 8, 9, 10] rfl)
            · refine tn_ic (v := 2) X dL_build_302 (by decide) ?_
              refine lv_iload X.1 X.2.1 dL_build_303 (lv_at hl 1 rfl) ?_
              refine tn_ic (v := 3) X dL_build_305 (by decide) ?_
              refine tn_sar X dL_build_306 (fun z306 => ?_)
              refine tn_ic (v := 3) X dL_build_307 (by decide) ?_
              refine kLS (As := [_, _]) (fun _ _ _ _ h => h) (fun _ _ _ => trivial) X hM hS hl.1 (c_L_below (n := _) (by omega) (by omega)) kl_L_15 mf_L_below ⟨Nat.le_of_ble_eq_true rfl, Nat.le_of_ble_eq_true rfl⟩ ⟨Nat.zero_le _, Nat.zero_le _⟩ rfl (Nat.le_of_ble_eq_true rfl) dL_build_308 (fun z308 H locs hz308 hM hS _ _ => ?_)
              obtain ⟨q308, hq308, rfl⟩ := hz308
              refine tn_add X dL_build_311 ?_
              refine lv_goto (tgt := 316) X.1 X.2.1 dL_build_312 (by decide) ?_
              refine x_iast (q := 1) X hM hS rfl (by omega) (by decide) rfl dL_build_316 (fun H locs hM hS => ?_)
              replace hM : xM G _ (bWS G A B _ _) H := hM
              exact K317 _ _ (by rw [va_up_ne _ _ (show 6 * c1 ≠ 6 * c1 + 1 by omega), va_up_self, va_up_self]; unfold vk; omega) ls H locs hM hS (lv_sub hl [0, 1, 2, 3, 4, 5, 6, 7, 8, 9, 10] rfl)
          · refine tn_ic (v := 1) X dL_build_278 (by decide) ?_
            refine lv_iload X.1 X.2.1 dL_build_279 (lv_at hl 1 rfl) ?_
            refine tn_ic (v := 3) X dL_build_281 (by decide) ?_
            refine tn_sar X dL_build_282 (fun z282 => ?_)
            refine tn_si (v := 700) X dL_build_283 (by decide) ?_
            refine kLS (As := [_, _]) (fun _ _ _ _ h => h) (fun _ _ _ => trivial) X hM hS hl.1 (c_L_below (n := _) (by omega) (by omega)) kl_L_15 mf_L_below ⟨Nat.le_of_ble_eq_true rfl, Nat.le_of_ble_eq_true rfl⟩ ⟨Nat.zero_le _, Nat.zero_le _⟩ rfl (Nat.le_of_ble_eq_true rfl) dL_build_286 (fun z286 H locs hz286 hM hS _ _ => ?_)
            obtain ⟨q286, hq286, rfl⟩ := hz286
            refine tn_add X dL_build_289 ?_
            refine lv_goto (tgt := 316) X.1 X.2.1 dL_build_290 (by decide) ?_
            refine x_iast (q := 1) X hM hS rfl (by omega) (by decide) rfl dL_build_316 (fun H locs hM hS => ?_)
            replace hM : xM G _ (bWS G A B _ _) H := hM
            exact K317 _ _ (by rw [va_up_ne _ _ (show 6 * c1 ≠ 6 * c1 + 1 by omega), va_up_self, va_up_self]; unfold vk; omega) ls H locs hM hS (lv_sub hl [0, 1, 2, 3, 4, 5, 6, 7, 8, 9, 10] rfl)
        · refine tn_ic (v := 1) X dL_build_255 (by decide) ?_
          refine lv_iload X.1 X.2.1 dL_build_256 (lv_at hl 1 rfl) ?_
          refine tn_ic (v := 3) X dL_build_258 (by decide) ?_
          refine tn_sar X dL_build_259 (fun z259 => ?_)
          refine tn_bi (v := 60) X dL_build_260 (by decide) ?_
          refine kLS (As := [_, _]) (fun _ _ _ _ h => h) (fun _ _ _ => trivial) X hM hS hl.1 (c_L_below (n := _) (by omega) (by omega)) kl_L_15 mf_L_below ⟨Nat.le_of_ble_eq_true rfl, Nat.le_of_ble_eq_true rfl⟩ ⟨Nat.zero_le _, Nat.zero_le _⟩ rfl (Nat.le_of_ble_eq_true rfl) dL_build_262 (fun z262 H locs hz262 hM hS _ _ => ?_)
          obtain ⟨q262, hq262, rfl⟩ := hz262
          refine tn_add X dL_build_265 ?_
          refine lv_goto (tgt := 316) X.1 X.2.1 dL_build_266 (by decide) ?_
          refine x_iast (q := 1) X hM hS rfl (by omega) (by decide) rfl dL_build_316 (fun H locs hM hS => ?_)
          replace hM : xM G _ (bWS G A B _ _) H := hM
          exact K317 _ _ (by rw [va_up_ne _ _ (show 6 * c1 ≠ 6 * c1 + 1 by omega), va_up_self, va_up_self]; unfold vk; omega) ls H locs hM hS (lv_sub hl [0, 1, 2, 3, 4, 5, 6, 7, 8, 9, 10] rfl)
  have M173 : ∀ (many : Nat) (ν : Mm) (f g : Nat → Nat), 1 ≤ many → many ≤ 5 → bOK many 0 ν → ∀ (ls : Array Slot) (H : Heap) (locs : List Loc), xM G ν (bWS G A B f g) H → pS G s.heap H locs → lv_has ls 12 [(7, .int (nI many)), (0, .ref (ra G 0)), (1, .ref b), (2, .int (nI 0)), (4, .int (nI 5)), (5, .ref A), (6, .ref B)] → W p l e (rmC 3 1 2) s m args below meth c H locs 0 0 (MQ below (bQ G) args s 1 2 (pA G)) (F0 m 173 ls []) := by
    intro many ν f g hm1 hm5 hB ls H locs hM hS hl
    refine lv_aload_n X.1 X.2.1 dL_build_173 rfl (lv_at hl 2 rfl) ?_
    refine lv_iload_n X.1 X.2.1 dL_build_174 rfl (lv_at hl 3 rfl) ?_
    refine kLS (As := [_, _]) hasX.calling (hX.go hb hS) X hM hS hl.1 (c_L_cell (k := _) (by omega)) kl_L_9 mf_L_cell ⟨Nat.le_of_ble_eq_true rfl, Nat.le_of_ble_eq_true rfl⟩ ⟨Nat.zero_le _, Nat.zero_le _⟩ rfl (Nat.le_of_ble_eq_true rfl) dL_build_175 (fun z175 H locs _ hM hS _ _ => ?_)
    refine tn_ic (v := 4) X dL_build_178 (by decide) ?_
    refine tn_sar X dL_build_179 (fun z179 => ?_)
    refine lv_iload X.1 X.2.1 dL_build_180 (lv_at hl 4 rfl) ?_
    refine tn_ic (v := 1) X dL_build_182 (by decide) ?_
    refine tn_add X dL_build_183 ?_
    refine kLS (As := [_, _]) (fun _ _ _ _ h => h) (fun _ _ _ => trivial) X hM hS hl.1 (c_L_below (n := _) (by omega) (by omega)) kl_L_15 mf_L_below ⟨Nat.le_of_ble_eq_true rfl, Nat.le_of_ble_eq_true rfl⟩ ⟨Nat.zero_le _, Nat.zero_le _⟩ rfl (Nat.le_of_ble_eq_true rfl) dL_build_184 (fun z184 H locs hz184 hM hS _ _ => ?_)
    obtain ⟨q184, hq184, rfl⟩ := hz184
    refine lv_istore X.1 X.2.1 dL_build_187 hl (by decide) rfl (fun ls hl => ?_)
    replace hl : lv_has ls 12 [(8, _), (7, _), (0, _), (1, _), (2, _), (4, _), (5, _), (6, _)] := hl
    refine tn_ic (v := 0) X dL_build_189 (by decide) ?_
    refine lv_istore X.1 X.2.1 dL_build_190 hl (by decide) rfl (fun ls hl => ?_)
    replace hl : lv_has ls 12 [(9, _), (8, _), (7, _), (0, _), (1, _), (2, _), (4, _), (5, _), (6, _)] := hl
    exact L2 q184 0 many q184 ν f g (by omega) (by omega) hm1 hm5 hB ls H locs hM hS (lv_sub hl [0, 1, 3, 4, 5, 6, 7, 8, 2] rfl)
  have L1 : ∀ (k a many : Nat) (ν : Mm) (f g : Nat → Nat), a + k = many → 1 ≤ many → many ≤ 5 → bOK a 0 ν → ∀ (ls : Array Slot) (H : Heap) (locs : List Loc), xM G ν (bWS G A B f g) H → pS G s.heap H locs → lv_has ls 12 [(8, .int (nI a)), (7, .int (nI many)), (0, .ref (ra G 0)), (1, .ref b), (2, .int (nI 0)), (4, .int (nI 5)), (5, .ref A), (6, .ref B)] → W p l e (rmC 3 1 2) s m args below meth c H locs 0 0 (MQ below (bQ G) args s 1 2 (pA G)) (F0 m 16 ls []) := by
    intro k
    induction k with
    | zero =>
      intro a many ν f g hk hm1 hm5 hB ls H locs hM hS hl
      refine lv_iload X.1 X.2.1 dL_build_16 (lv_at hl 0 rfl) ?_
      refine lv_iload X.1 X.2.1 dL_build_18 (lv_at hl 1 rfl) ?_
      refine tn_ge (tgt := 173) X dL_build_20 (by decide) (by omega) (by omega) (fun h20 => ?_) (fun h20 => ?_)
      · exact M173 many ν f g hm1 hm5 (by rw [show many = a by omega]; exact hB) ls H locs hM hS (lv_sub hl [1, 2, 3, 4, 5, 6, 7] rfl)
      · exfalso; omega
    | succ k ih =>
      intro a many ν f g hk hm1 hm5 hB ls H locs hM hS hl
      have K87 : ∀ (w : Int32) (f : Nat → Nat), (1 ≤ f (3 * a) ∧ f (3 * a) ≤ 900) → ∀ (ls : Array Slot) (H : Heap) (locs : List Loc), xM G ν (bWS G A B f g) H → pS G s.heap H locs → lv_has ls 12 [(9, .int w), (8, .int (nI a)), (7, .int (nI many)), (0, .ref (ra G 0)), (1, .ref b), (2, .int (nI 0)), (4, .int (nI 5)), (5, .ref A), (6, .ref B)] → W p l e (rmC 3 1 2) s m args below meth c H locs 0 0 (MQ below (bQ G) args s 1 2 (pA G)) (F0 m 87 ls []) := by
        intro w f hf ls H locs hM hS hl
        refine lv_aload X.1 X.2.1 dL_build_87 (lv_at hl 7 rfl) ?_
        refine tn_ic (v := 3) X dL_build_89 (by decide) ?_
        refine lv_iload X.1 X.2.1 dL_build_90 (lv_at hl 1 rfl) ?_
        refine tn_mul X dL_build_92 ?_
        refine tn_ic (v := 1) X dL_build_93 (by decide) ?_
        refine tn_add X dL_build_94 ?_
        refine lv_iload X.1 X.2.1 dL_build_95 (lv_at hl 0 rfl) ?_
        refine tn_ic (v := 5) X dL_build_97 (by decide) ?_
        refine tn_sar X dL_build_98 (fun z98 => ?_)
        refine tn_ic (v := 3) X dL_build_99 (by decide) ?_
        refine kLS (As := [_, _]) (fun _ _ _ _ h => h) (fun _ _ _ => trivial) X hM hS hl.1 (c_L_below (n := _) (by omega) (by omega)) kl_L_15 mf_L_below ⟨Nat.le_of_ble_eq_true rfl, Nat.le_of_ble_eq_true rfl⟩ ⟨Nat.zero_le _, Nat.zero_le _⟩ rfl (Nat.le_of_ble_eq_true rfl) dL_build_100 (fun z100 H locs hz100 hM hS _ _ => ?_)
        obtain ⟨q100, hq100, rfl⟩ := hz100
        refine x_iast (q := 0) X hM hS rfl (by omega) (by decide) rfl dL_build_103 (fun H locs hM hS => ?_)
        replace hM : xM G _ (bWS G A B _ _) H := hM
        refine lv_aload X.1 X.2.1 dL_build_104 (lv_at hl 7 rfl) ?_
        refine tn_ic (v := 3) X dL_build_106 (by decide) ?_
        refine lv_iload X.1 X.2.1 dL_build_107 (lv_at hl 1 rfl) ?_
        refine tn_mul X dL_build_109 ?_
        refine tn_ic (v := 2) X dL_build_110 (by decide) ?_
        refine tn_add X dL_build_111 ?_
        refine lv_iload X.1 X.2.1 dL_build_112 (lv_at hl 0 rfl) ?_
        refine tn_bi (v := 7) X dL_build_114 (by decide) ?_
        refine tn_sar X dL_build_116 (fun z116 => ?_)
        refine tn_ic (v := 4) X dL_build_117 (by decide) ?_
        refine kLS (As := [_, _]) (fun _ _ _ _ h => h) (fun _ _ _ => trivial) X hM hS hl.1 (c_L_below (n := _) (by omega) (by omega)) kl_L_15 mf_L_below ⟨Nat.le_of_ble_eq_true rfl, Nat.le_of_ble_eq_true rfl⟩ ⟨Nat.zero_le _, Nat.zero_le _⟩ rfl (Nat.le_of_ble_eq_true rfl) dL_build_118 (fun z118 H locs hz118 hM hS _ _ => ?_)
        obtain ⟨q118, hq118, rfl⟩ := hz118
        refine x_iast (q := 0) X hM hS rfl (by omega) (by decide) rfl dL_build_121 (fun H locs hM hS => ?_)
        replace hM : xM G _ (bWS G A B _ _) H := hM
        refine lv_aload_n X.1 X.2.1 dL_build_122 rfl (lv_at hl 3 rfl) ?_
        refine lv_aload X.1 X.2.1 dL_build_123 (lv_at hl 7 rfl) ?_
        refine tn_ic (v := 3) X dL_build_125 (by decide) ?_
        refine lv_iload X.1 X.2.1 dL_build_126 (lv_at hl 1 rfl) ?_
        refine tn_mul X dL_build_128 ?_
        refine x_iald (q := 0) X hM rfl (by omega) (by decide) dL_build_129 ?_
        refine tn_as (show _ = f (3 * a) from (va_up_ne _ _ (show 3 * a ≠ 3 * a + 2 by omega)).trans (va_up_ne _ _ (show 3 * a ≠ 3 * a + 1 by omega))) ?_
        refine lv_aload X.1 X.2.1 dL_build_130 (lv_at hl 7 rfl) ?_
        refine tn_ic (v := 3) X dL_build_132 (by decide) ?_
        refine lv_iload X.1 X.2.1 dL_build_133 (lv_at hl 1 rfl) ?_
        refine tn_mul X dL_build_135 ?_
        refine tn_ic (v := 1) X dL_build_136 (by decide) ?_
        refine tn_add X dL_build_137 ?_
        refine x_iald (q := 0) X hM rfl (by omega) (by decide) dL_build_138 ?_
        refine tn_as (show _ = q100 from (va_up_ne _ _ (show 3 * a + 1 ≠ 3 * a + 2 by omega)).trans (va_up_self _ _ _)) ?_
        refine kLD (As := [_, _]) X hM hS hl.1 (c_X5_addArticle hB.1 hf.1 (by omega) (by omega) (by have := hB.2.1; omega)) rfl kl_L_19 mf_X5_addArticle ⟨Nat.le_of_ble_eq_true rfl, Nat.le_of_ble_eq_true rfl⟩ ⟨Nat.zero_le _, Nat.zero_le _⟩ rfl (Nat.le_of_ble_eq_true rfl) dL_build_139 (fun r139 ν139 H locs hp139 hM hS => ?_)
        obtain ⟨e139, rfl⟩ := hp139
        refine tn_as (show r139 = a from e139.trans hB.2.1) ?_
        have hB1 := hB.art (by omega) (show f (3 * a) ≤ 10000 by omega) (show q100 ≤ 7 by omega)
        refine lv_iload X.1 X.2.1 dL_build_142 (lv_at hl 1 rfl) ?_
        refine tn_ne (tgt := 165) X dL_build_144 (by decide) (by omega) (by omega) (fun h144 => ?_) (fun h144 => ?_)
        · exfalso; omega
        · refine lv_aload_n X.1 X.2.1 dL_build_147 rfl (lv_at hl 3 rfl) ?_
          refine lv_iload X.1 X.2.1 dL_build_148 (lv_at hl 1 rfl) ?_
          refine lv_aload X.1 X.2.1 dL_build_150 (lv_at hl 7 rfl) ?_
          refine tn_ic (v := 3) X dL_build_152 (by decide) ?_
          refine lv_iload X.1 X.2.1 dL_build_153 (lv_at hl 1 rfl) ?_
          refine tn_mul X dL_build_155 ?_
          refine tn_ic (v := 2) X dL_build_156 (by decide) ?_
          refine tn_add X dL_build_157 ?_
          refine x_iald (q := 0) X hM rfl (by omega) (by decide) dL_build_158 ?_
          refine tn_as (show _ = q118 from va_up_self _ _ _) ?_
          refine kLD (As := [_, _]) X hM hS hl.1 (c_X5_put hB1.1 (by have := hB1.2.1; omega) (by omega)) rfl kl_L_24 mf_X5_put ⟨Nat.le_of_ble_eq_true rfl, Nat.le_of_ble_eq_true rfl⟩ ⟨Nat.zero_le _, Nat.zero_le _⟩ rfl (Nat.le_of_ble_eq_true rfl) dL_build_159 (fun r159 ν159 H locs hp159 hM hS => ?_)
          obtain ⟨e159, rfl⟩ := hp159
          refine tn_as (show r159 = 0 from e159.trans ?_) ?_
          · rw [up2_ne (by decide), up2_ne (by decide), up2_ne (by decide)]; exact hB.2.2.2.2 a (by omega)
          refine tn_eq0 (tgt := 167) X dL_build_162 (by decide) (by omega) (fun h162 => ?_) (fun h162 => ?_)
          · refine tn_inc (k := 1) (w := 1) X dL_build_167 hl rfl (by decide) (by decide) rfl (fun ls hl => ?_)
            replace hl : lv_has ls 12 [(8, _), (9, _), (7, _), (0, _), (1, _), (2, _), (4, _), (5, _), (6, _)] := hl
            refine lv_goto (tgt := 16) X.1 X.2.1 dL_build_170 (by decide) ?_
            exact ih (a + 1) many _ _ g (by omega) hm1 hm5 (hB1.put (by omega) (by omega)) ls H locs hM hS (lv_sub hl [0, 2, 3, 4, 5, 6, 7, 8] rfl)
          · exfalso; omega
      refine lv_iload X.1 X.2.1 dL_build_16 (lv_at hl 0 rfl) ?_
      refine lv_iload X.1 X.2.1 dL_build_18 (lv_at hl 1 rfl) ?_
      refine tn_ge (tgt := 173) X dL_build_20 (by decide) (by omega) (by omega) (fun h20 => ?_) (fun h20 => ?_)
      · exfalso; omega
      · refine lv_aload_n X.1 X.2.1 dL_build_23 rfl (lv_at hl 3 rfl) ?_
        refine lv_iload_n X.1 X.2.1 dL_build_24 rfl (lv_at hl 4 rfl) ?_
        refine tn_ic (v := 1) X dL_build_25 (by decide) ?_
        refine tn_add X dL_build_26 ?_
        refine lv_iload X.1 X.2.1 dL_build_27 (lv_at hl 0 rfl) ?_
        refine tn_ic (v := 3) X dL_build_29 (by decide) ?_
        refine tn_rem X dL_build_30 (by omega) (by omega) (by omega) ?_
        refine tn_add X dL_build_31 ?_
        refine kLS (As := [_, _]) hasX.calling (hX.go hb hS) X hM hS hl.1 (c_L_cell (k := _) (by omega)) kl_L_9 mf_L_cell ⟨Nat.le_of_ble_eq_true rfl, Nat.le_of_ble_eq_true rfl⟩ ⟨Nat.zero_le _, Nat.zero_le _⟩ rfl (Nat.le_of_ble_eq_true rfl) dL_build_32 (fun z32 H locs _ hM hS _ _ => ?_)
        refine lv_iload X.1 X.2.1 dL_build_35 (lv_at hl 0 rfl) ?_
        refine tn_ic (v := 3) X dL_build_37 (by decide) ?_
        refine tn_div X dL_build_38 (by omega) (by omega) (by omega) ?_
        refine tn_bi (v := 9) X dL_build_39 (by decide) ?_
        refine tn_mul X dL_build_41 ?_
        refine tn_sar X dL_build_42 (fun z42 => ?_)
        refine lv_istore X.1 X.2.1 dL_build_43 hl (by decide) rfl (fun ls hl => ?_)
        replace hl : lv_has ls 12 [(9, _), (8, _), (7, _), (0, _), (1, _), (2, _), (4, _), (5, _), (6, _)] := hl
        refine lv_aload X.1 X.2.1 dL_build_45 (lv_at hl 7 rfl) ?_
        refine tn_ic (v := 3) X dL_build_47 (by decide) ?_
        refine lv_iload X.1 X.2.1 dL_build_48 (lv_at hl 1 rfl) ?_
        refine tn_mul X dL_build_50 ?_
        refine lv_iload X.1 X.2.1 dL_build_51 (lv_at hl 0 rfl) ?_
        refine tn_ic (v := 3) X dL_build_53 (by decide) ?_
        refine kLS (As := [_, _]) (fun _ _ _ _ h => h) (fun _ _ _ => trivial) X hM hS hl.1 (c_L_below (n := _) (by omega) (by omega)) kl_L_15 mf_L_below ⟨Nat.le_of_ble_eq_true rfl, Nat.le_of_ble_eq_true rfl⟩ ⟨Nat.zero_le _, Nat.zero_le _⟩ rfl (Nat.le_of_ble_eq_true rfl) dL_build_54 (fun z54 H locs hz54 hM hS _ _ => ?_)
        obtain ⟨q54, hq54, rfl⟩ := hz54
        refine tn_ne0 (tgt := 74) X dL_build_57 (by decide) (by omega) (fun h57 => ?_) (fun h57 => ?_)
        · refine tn_ic (v := 1) X dL_build_74 (by decide) ?_
          refine lv_iload X.1 X.2.1 dL_build_75 (lv_at hl 0 rfl) ?_
          refine tn_ic (v := 2) X dL_build_77 (by decide) ?_
          refine tn_sar X dL_build_78 (fun z78 => ?_)
          refine tn_si (v := 900) X dL_build_79 (by decide) ?_
          refine kLS (As := [_, _]) (fun _ _ _ _ h => h) (fun _ _ _ => trivial) X hM hS hl.1 (c_L_below (n := _) (by omega) (by omega)) kl_L_15 mf_L_below ⟨Nat.le_of_ble_eq_true rfl, Nat.le_of_ble_eq_true rfl⟩ ⟨Nat.zero_le _, Nat.zero_le _⟩ rfl (Nat.le_of_ble_eq_true rfl) dL_build_82 (fun z82 H locs hz82 hM hS _ _ => ?_)
          obtain ⟨q82, hq82, rfl⟩ := hz82
          refine tn_add X dL_build_85 ?_
          refine x_iast (q := 0) X hM hS rfl (by omega) (by decide) rfl dL_build_86 (fun H locs hM hS => ?_)
          replace hM : xM G _ (bWS G A B _ _) H := hM
          exact K87 _ _ (by rw [va_up_self]; omega) ls H locs hM hS (lv_sub hl [0, 1, 2, 3, 4, 5, 6, 7, 8] rfl)
        · refine tn_ic (v := 1) X dL_build_60 (by decide) ?_
          refine lv_iload X.1 X.2.1 dL_build_61 (lv_at hl 0 rfl) ?_
          refine tn_ic (v := 2) X dL_build_63 (by decide) ?_
          refine tn_sar X dL_build_64 (fun z64 => ?_)
          refine tn_bi (v := 12) X dL_build_65 (by decide) ?_
          refine kLS (As := [_, _]) (fun _ _ _ _ h => h) (fun _ _ _ => trivial) X hM hS hl.1 (c_L_below (n := _) (by omega) (by omega)) kl_L_15 mf_L_below ⟨Nat.le_of_ble_eq_true rfl, Nat.le_of_ble_eq_true rfl⟩ ⟨Nat.zero_le _, Nat.zero_le _⟩ rfl (Nat.le_of_ble_eq_true rfl) dL_build_67 (fun z67 H locs hz67 hM hS _ _ => ?_)
          obtain ⟨q67, hq67, rfl⟩ := hz67
          refine tn_add X dL_build_70 ?_
          refine lv_goto (tgt := 86) X.1 X.2.1 dL_build_71 (by decide) ?_
          refine x_iast (q := 0) X hM hS rfl (by omega) (by decide) rfl dL_build_86 (fun H locs hM hS => ?_)
          replace hM : xM G _ (bWS G A B _ _) H := hM
          exact K87 _ _ (by rw [va_up_self]; omega) ls H locs hM hS (lv_sub hl [0, 1, 2, 3, 4, 5, 6, 7, 8] rfl)
  refine tn_ic (v := 1) X dL_build_0 (by decide) ?_
  refine lv_aload_n X.1 X.2.1 dL_build_1 rfl (lv_at hl 1 rfl) ?_
  refine lv_iload_n X.1 X.2.1 dL_build_2 rfl (lv_at hl 2 rfl) ?_
  refine kLS (As := [_, _]) hasX.calling (hX.go hb hS) X hM hS hl.1 (c_L_cell (k := _) (by omega)) kl_L_9 mf_L_cell ⟨Nat.le_of_ble_eq_true rfl, Nat.le_of_ble_eq_true rfl⟩ ⟨Nat.zero_le _, Nat.zero_le _⟩ rfl (Nat.le_of_ble_eq_true rfl) dL_build_3 (fun z3 H locs _ hM hS _ _ => ?_)
  refine lv_iload_n X.1 X.2.1 dL_build_6 rfl (lv_at hl 3 rfl) ?_
  refine kLS (As := [_, _]) (fun _ _ _ _ h => h) (fun _ _ _ => trivial) X hM hS hl.1 (c_L_below (n := _) (by omega) (by omega)) kl_L_15 mf_L_below ⟨Nat.le_of_ble_eq_true rfl, Nat.le_of_ble_eq_true rfl⟩ ⟨Nat.zero_le _, Nat.zero_le _⟩ rfl (Nat.le_of_ble_eq_true rfl) dL_build_7 (fun z7 H locs hz7 hM hS _ _ => ?_)
  obtain ⟨q7, hq7, rfl⟩ := hz7
  refine tn_add X dL_build_10 ?_
  refine lv_istore X.1 X.2.1 dL_build_11 hl (by decide) rfl (fun ls hl => ?_)
  replace hl : lv_has ls 12 [(7, _), (0, _), (1, _), (2, _), (3, _), (4, _), (5, _), (6, _)] := hl
  refine tn_ic (v := 0) X dL_build_13 (by decide) ?_
  refine lv_istore X.1 X.2.1 dL_build_14 hl (by decide) rfl (fun ls hl => ?_)
  replace hl : lv_has ls 12 [(8, _), (7, _), (0, _), (1, _), (2, _), (3, _), (4, _), (5, _), (6, _)] := hl
  exact L1 (1 + q7) 0 (1 + q7) nu0 f0 g0 (by omega) (by omega) (by omega) bOK_0 ls H locs hM hS (lv_sub hl [0, 1, 2, 3, 4, 6, 7, 8] rfl)
set_option maxRecDepth 100000 in
theorem c_L_build {l : Launch} {G : dG} {b A B : Nat} {f0 g0 : Nat → Nat} : Met l yL_build (wsD yL_build cL_build 12 (some (.array .int))) (rmC 3 1 2) (bPc G b A B f0 g0) (bQ G) 1 2 (pA G) := by
  refine Met.ofW (cc := cL_build) (maxL := 12) (ret := some (.array .int)) (by decide +kernel) rfl ?_
  intro p e s m args below meth c s₁ BB hml hv
  obtain ⟨rfl, hM, hK, hX, hb⟩ := hv
  have hts := atoms_spec (ws := wsD yL_build cL_build 12 (some (.array .int))) BB.pre
  have hl := lv_entry [Value.ref (ra G 0), .ref b, .int (nI 0), .int (nI 5), .int (nI 5), .ref A, .ref B] (show (lg_sl _).length ≤ 12 from Nat.le_of_ble_eq_true rfl)
  rw [lg_entry_eq]
  exact b_L_build p e s m _ below meth c _ ⟨BB.exec, BB.bytes, hml, findClass_of_methodNamed BB.named, fun w h => hts w (List.mem_cons_of_mem _ h), hK⟩ hM hX hb BB.returns BB.notSynchronized hl
