/-! ===== constructors ===== -/
/-- room of a constructor -/
def rmC (d mc ms : Nat) : Room := { frames := d, cells := mc, slots := ms, locals := 40 * d }
abbrev nPc (G : dG) (sz : Nat) (E : Nat → va_E) (k : Nat) (av : List Value) : Array Value → State → Prop := va_Pc av (fun U => U.heap.size = sz ∧ pM G E k U.heap ∧ dK G U ∧ NA U)
abbrev nQ (G : dG) (k' : Nat) (P : (Nat → va_E) → Prop) : Array Value → State → Outcome → State → Prop := va_Qv (fun E' : Nat → va_E => P E') (fun E' t => pM G E' k' t.heap) (pA G)
/-- made at cell i, with k cells there: k' cells are there then, and hold P -/
def cN (l : Launch) (y : MethodName) (b : ByteArray) (n d mc ms : Nat) (G : dG) (i k k' : Nat) (E : Nat → va_E) (P : (Nat → va_E) → Prop) : Prop :=
  ∀ sz, Met l y (wsD y b n none) (rmC d mc ms) (nPc G sz E k [.ref (ra G i)]) (nQ G k' P) mc ms (pA G)
theorem cN_of {l : Launch} {y : MethodName} {b : ByteArray} {n d mc ms : Nat} {G : dG} {i k k' : Nat} {E : Nat → va_E} {P : (Nat → va_E) → Prop} (hy : plainName y.cls = true) (hyn : y.name = "<init>") (hn : (lg_sl [Value.ref (ra G i)]).length ≤ n)
    (body : ∀ (p : Program) (e : Env) (s : State) (m : MethodId) (args : Array Value) (below : List Frame) (meth : Method) (c : Code) (ls : Array Slot), dC p s m args c b n y.cls G → pM G E k s.heap → NA s → meth.name = "<init>" → meth.sig.returnType = none → meth.locks = false → lv_has ls n (lv_args 0 [.ref (ra G i)]) →
      W p l e (rmC d mc ms) s m args below meth c s.heap [] 0 0 (MQ below (nQ G k' P) args s mc ms (pA G)) (F0 m 0 ls [])) : cN l y b n d mc ms G i k k' E P := by
  intro sz
  refine Met.ofW (cc := b) (maxL := n) (ret := none) hy rfl ?_
  intro p e s m args below meth c s₁ B hml hv
  obtain ⟨rfl, hsz, hM, hK, hN⟩ := hv
  subst hsz
  have hts := atoms_spec (ws := wsD y b n none) B.pre
  have hl := lv_entry [Value.ref (ra G i)] hn
  rw [lg_entry_eq]
  exact body p e s m _ below meth c _ ⟨B.exec, B.bytes, hml, findClass_of_methodNamed B.named, fun w h => hts w (List.mem_cons_of_mem _ h), hK⟩ hM hN ((name_of_methodNamed B.named B.method).1.trans hyn) B.returns B.notSynchronized hl
theorem nPc_blind (G : dG) (sz : Nat) (E : Nat → va_E) (k : Nat) (av : List Value) : FrameBlind (nPc G sz E k av) := fun a U g mk q => by
  obtain ⟨q0, q1, q2, q3, q4⟩ := q
  exact ⟨q0, q1, q2, q3.calling, NA.moved (u := U) (U := U.calling g mk a) (Vm.Alike.refl U.vm) q4⟩
section RW7
variable {p : Program} {l : Launch} {e : Env} {R : Room} {s : State} {m : MethodId} {args : Array Value} {below : List Frame} {meth : Method} {c : Code} {H : Heap} {locs : List Loc} {cells slots : Nat} {Q : State → Prop}
variable {cc : ByteArray} {pc n : Nat} {ls : Array Slot} {rest st : List Value} {own : String} {G : dG} {E : Nat → va_E} {k k' i : Nat} {H0 : Heap} {P : (Nat → va_E) → Prop}
theorem rN (hp : P E) (X : dC p s m args c cc n own G) (hP : pM G E k' H) (hS : pS G s.heap H locs) (hr : meth.sig.returnType = none) (hlk : meth.locks = false) (hdg : decode cc pc = .ok (.return_, 1)) : W p l e R s m args below meth c H locs cells slots (MQ below (nQ G k' P) args s cells slots (pA G)) (F0 m pc ls []) :=
  W.vret X.1 X.2.1 hr (fun t ht hW => ⟨⟨E, rfl, hp, by show pM G E k' t.heap; rw [ht]; exact hP⟩, hS.F ht⟩) hS.2.2 hdg hlk
theorem kNC {y : MethodName} {b : ByteArray} {nL nY d mc ms index : Nat} {host : String} (X : dC p s m args c cc nL own G) (hP : pM G E k H) (hS : pS G H0 H locs) (hl : ls.size = nL) (hc : cN l y b nY d mc ms G i k k' E P) (hlink : Cond.methodLinkNest own index y host ∈ nestW) (mf : Cond.instanceMethod y ∈ allW ∧ Cond.code y b nY none ∈ allW) (hin : Cond.initialized y.cls ∈ allW) (hd : y.name = "<init>" ∧ y.cls ≠ "java/lang/invoke/MethodHandle" ∧ y.cls ≠ "java/lang/invoke/VarHandle" ∧ (parseMethodDescriptor y.desc).map (fun d => d.parameters.length) = some 0) (hNA : NA s) (hR : d + 1 ≤ R.frames ∧ 8 + (nY + 11) + 40 * d ≤ R.locals) (hcs : cells + mc ≤ R.cells ∧ slots + ms ≤ R.slots) (hstk : st = .ref (ra G i) :: rest) (hst : (rest.map fun v => v.category).sum ≤ 8) (hdg : decode cc pc = .ok (.invokespecial index, 3))
    (kk : ∀ (E' : Nat → va_E) (H1 : Heap) (locs1 : List Loc), P E' → pM G E' k' H1 → pS G H0 H1 locs1 → W p l e R s m args below meth c H1 locs1 (cells + mc) (slots + ms) Q (F0 m (pc + 3) ls rest)) : W p l e R s m args below meth c H locs cells slots Q (F0 m pc ls st) := by
  subst hstk
  refine va_callv (va_runIN (host := host) (As := []) (rest := rest) ⟨X.1, X.2.1, X.2.2.1, X.2.2.2.1, X.2.2.2.2.1⟩ (hc H.size) ⟨va_cnB 0 X.2.2.2.2.1 (goodIn_all (fun _ h => h) mf.2) rfl rfl rfl (X.2.2.2.2.2.2 _ hlink) (X.2.2.2.2.1 _ hin) hd.2 hR, hd.1, X.2.2.2.2.1 _ mf.1⟩ ⟨nPc_blind _ _ _ _ _, fun U hU hW => ⟨rfl, by rw [hU], by rw [hU]; exact hP, X.2.2.2.2.2.warm hW, hNA.moved hW.alike⟩⟩ rfl rfl hl rfl (lv_room hst) hdg hcs) hS (fun q _ h => h) (fun q h => h) (fun u t H1 locs1 ht hvm hw hB _ _ hS1 => ?_)
  rw [ht] at hB
  exact kk u H1 locs1 hw hB hS1
end RW7
/-- a lot at i, new -/
def lotN (G : dG) (i : Nat) (E : Nat → va_E) : Prop := E i = .inr (1, [.ref (ra G (i + 1)), .ref (ra G (i + 2)), .ref (ra G (i + 3))]) ∧ ∀ j, i + 1 ≤ j → j ≤ i + 3 → E j = aI G 10 (fun _ => 0)
theorem lotN_keep {G : dG} {i : Nat} {E E' : Nat → va_E} (h : lotN G i E) (hk : ∀ j, i ≤ j → E' j = E j) : lotN G i E' := ⟨by rw [hk i (Nat.le_refl _)]; exact h.1, fun j h1 h2 => by rw [hk j (by omega)]; exact h.2 j h1 h2⟩
theorem lot3 {i : Nat} {E : Nat → va_E} {a : va_E} (h1 : E (i + 1) = a) (h2 : E (i + 2) = a) (h3 : E (i + 3) = a) : ∀ j, i + 1 ≤ j → j ≤ i + 3 → E j = a := by
  intro j g1 g2
  rcases (show j = i + 1 ∨ j = i + 2 ∨ j = i + 3 by omega) with rfl | rfl | rfl
  · exact h1
  · exact h2
  · exact h3
theorem tray_r {G : dG} {i j : Nat} {E7 E8 : Nat → va_E} (h7 : E7 (i + 13) = aI G 60 (fun _ => 0)) (h1 : i + 4 ≤ j) (h2 : j ≤ i + 13) (h : E8 j = E7 j) (ho : j ≠ i + 13 → E7 j = aI G 60 (fun _ => 0)) : E8 j = aI G 60 (fun _ => 0) := by
  rw [h]
  by_cases e : j = i + 13
  · rw [e]; exact h7
  · exact ho e
set_option maxHeartbeats 4000000 in
set_option maxRecDepth 100000 in
theorem c_X1_init {l : Launch} {G : dG} {E : Nat → va_E} {i : Nat} (hE : E i = .inr (1, [.null, .null, .null])) : cN l yX1_init cX1_init 1 1 3 30 G (i) (i + 1) (i + 4) E (fun E' => lotN G i E' ∧ ∀ j, j < i → E' j = E j) := by
  refine cN_of (by decide +kernel) rfl (Nat.le_of_ble_eq_true rfl) ?_
  intro p e s m args below meth c ls X hP hNA hini hret hlk hl
  have hS : pS G s.heap s.heap [] := va_S.rf
  replace hl : lv_has ls 1 [(0, _)] := hl
  refine lv_aload_n X.1 X.2.1 dX1_init_0 rfl (lv_at hl 0 rfl) ?_
  refine W.objInit X.1 X.2.1 X.2.2.2.1 (X.2.2.2.2.1 _ kl_X1_3) (X.2.2.2.2.1 _ mi_obj.1) (X.2.2.2.2.1 _ mi_obj.2) rfl (by rw [X.2.2.1]; exact hl.1) rfl dX1_init_1 (Nat.le_of_ble_eq_true rfl) (Nat.le_of_ble_eq_true rfl) ?_
  refine W.eq (g2 := F0 m 4 ls []) rfl ?_
  refine lv_aload_n X.1 X.2.1 dX1_init_4 rfl (lv_at hl 0 rfl) ?_
  refine tn_bi (v := 10) X dX1_init_5 (by decide) ?_
  refine p_newI X hP hS ka_int (by decide) (Nat.le_of_ble_eq_true rfl) (Nat.le_of_ble_eq_true rfl) dX1_init_7 (fun H hP hS => ?_)
  obtain ⟨E1, hq1⟩ : ∃ z, z = va_up E (i + 1) (aI G 10 (fun _ => 0)) := ⟨_, rfl⟩
  rw [← hq1] at hP
  have hi1 : E1 (i + 1) = aI G 10 (fun _ => 0) := by rw [hq1, va_up_self]
  have hn1 : ∀ y, y ≠ i + 1 → E1 y = E y := fun y hy => by rw [hq1, va_up_ne _ _ hy]
  clear hq1
  have hE100 : E1 i = .inr (1, [.null, .null, .null]) := by rw [hn1 i (by omega)]; exact hE
  refine p_putF (ty := .array .int) (fs' := [.ref (ra G (i + 1)), .null, .null]) (ci := 1) (C := RX1) (T := TX1) (N := 3) X hini hP hS inA1 tyX1_ok nmX1 (by omega) hE100 rfl 0 (by decide) kl_X1_9 rfl rfl (by decide +kernel) rfl rfl (Nat.le_of_ble_eq_true rfl) rfl dX1_init_9 (fun H locs hP hS => ?_)
  obtain ⟨E2, hq2⟩ : ∃ z, z = va_up E1 (i) (.inr (1, [.ref (ra G (i + 1)), .null, .null])) := ⟨_, rfl⟩
  rw [← hq2] at hP
  have hi2 : E2 (i) = .inr (1, [.ref (ra G (i + 1)), .null, .null]) := by rw [hq2, va_up_self]
  have hn2 : ∀ y, y ≠ i → E2 y = E1 y := fun y hy => by rw [hq2, va_up_ne _ _ hy]
  clear hq2
  refine lv_aload_n X.1 X.2.1 dX1_init_12 rfl (lv_at hl 0 rfl) ?_
  refine tn_bi (v := 10) X dX1_init_13 (by decide) ?_
  refine p_newI X hP hS ka_int (by decide) (Nat.le_of_ble_eq_true rfl) (Nat.le_of_ble_eq_true rfl) dX1_init_15 (fun H hP hS => ?_)
  obtain ⟨E3, hq3⟩ : ∃ z, z = va_up E2 (i + 2) (aI G 10 (fun _ => 0)) := ⟨_, rfl⟩
  rw [← hq3] at hP
  have hi3 : E3 (i + 2) = aI G 10 (fun _ => 0) := by rw [hq3, va_up_self]
  have hn3 : ∀ y, y ≠ i + 2 → E3 y = E2 y := fun y hy => by rw [hq3, va_up_ne _ _ hy]
  clear hq3
  have hE101 : E3 i = .inr (1, [.ref (ra G (i + 1)), .null, .null]) := by rw [hn3 i (by omega)]; exact hi2
  refine p_putF (ty := .array .int) (fs' := [.ref (ra G (i + 1)), .ref (ra G (i + 2)), .null]) (ci := 1) (C := RX1) (T := TX1) (N := 3) X hini hP hS inA1 tyX1_ok nmX1 (by omega) hE101 rfl 1 (by decide) kl_X1_15 rfl rfl (by decide +kernel) rfl rfl (Nat.le_of_ble_eq_true rfl) rfl dX1_init_17 (fun H locs hP hS => ?_)
  obtain ⟨E4, hq4⟩ : ∃ z, z = va_up E3 (i) (.inr (1, [.ref (ra G (i + 1)), .ref (ra G (i + 2)), .null])) := ⟨_, rfl⟩
  rw [← hq4] at hP
  have hi4 : E4 (i) = .inr (1, [.ref (ra G (i + 1)), .ref (ra G (i + 2)), .null]) := by rw [hq4, va_up_self]
  have hn4 : ∀ y, y ≠ i → E4 y = E3 y := fun y hy => by rw [hq4, va_up_ne _ _ hy]
  clear hq4
  refine lv_aload_n X.1 X.2.1 dX1_init_20 rfl (lv_at hl 0 rfl) ?_
  refine tn_bi (v := 10) X dX1_init_21 (by decide) ?_
  refine p_newI X hP hS ka_int (by decide) (Nat.le_of_ble_eq_true rfl) (Nat.le_of_ble_eq_true rfl) dX1_init_23 (fun H hP hS => ?_)
  obtain ⟨E5, hq5⟩ : ∃ z, z = va_up E4 (i + 3) (aI G 10 (fun _ => 0)) := ⟨_, rfl⟩
  rw [← hq5] at hP
  have hi5 : E5 (i + 3) = aI G 10 (fun _ => 0) := by rw [hq5, va_up_self]
  have hn5 : ∀ y, y ≠ i + 3 → E5 y = E4 y := fun y hy => by rw [hq5, va_up_ne _ _ hy]
  clear hq5
  have hE102 : E5 i = .inr (1, [.ref (ra G (i + 1)), .ref (ra G (i + 2)), .null]) := by rw [hn5 i (by omega)]; exact hi4
  refine p_putF (ty := .array .int) (fs' := [.ref (ra G (i + 1)), .ref (ra G (i + 2)), .ref (ra G (i + 3))]) (ci := 1) (C := RX1) (T := TX1) (N := 3) X hini hP hS inA1 tyX1_ok nmX1 (by omega) hE102 rfl 2 (by decide) kl_X1_18 rfl rfl (by decide +kernel) rfl rfl (Nat.le_of_ble_eq_true rfl) rfl dX1_init_25 (fun H locs hP hS => ?_)
  obtain ⟨E6, hq6⟩ : ∃ z, z = va_up E5 (i) (.inr (1, [.ref (ra G (i + 1)), .ref (ra G (i + 2)), .ref (ra G (i + 3))])) := ⟨_, rfl⟩
  rw [← hq6] at hP
  have hi6 : E6 (i) = .inr (1, [.ref (ra G (i + 1)), .ref (ra G (i + 2)), .ref (ra G (i + 3))]) := by rw [hq6, va_up_self]
  have hn6 : ∀ y, y ≠ i → E6 y = E5 y := fun y hy => by rw [hq6, va_up_ne _ _ hy]
  clear hq6
  exact rN (⟨⟨hi6, lot3 (by rw [hn6 _ (by omega), hn5 _ (by omega), hn4 _ (by omega), hn3 _ (by omega), hn2 _ (by omega)]; exact hi1) (by rw [hn6 _ (by omega), hn5 _ (by omega), hn4 _ (by omega)]; exact hi3) (by rw [hn6 _ (by omega)]; exact hi5)⟩, fun j hj => by rw [hn6 j (by omega), hn5 j (by omega), hn4 j (by omega), hn3 j (by omega), hn2 j (by omega), hn1 j (by omega)]⟩) X hP hS hret hlk dX1_init_28

set_option maxHeartbeats 4000000 in
set_option maxRecDepth 100000 in
theorem c_X3_init {l : Launch} {G : dG} {E : Nat → va_E} {i k : Nat} (hE : E i = .inr (3, [.int (nI 0), .int (nI 0), .int (nI 0), .int (nI 0), .int (nI 0)])) (hik : i < k) : cN l yX3_init cX3_init 1 1 0 0 G (i) (k) (k) E (fun E' => E' i = .inr (3, [.int (nI 0), .int (nI 0), .int (nI 0), .int (nI 610001), .int (nI 610001)]) ∧ ∀ j, j ≠ i → E' j = E j) := by
  refine cN_of (by decide +kernel) rfl (Nat.le_of_ble_eq_true rfl) ?_
  intro p e s m args below meth c ls X hP hNA hini hret hlk hl
  have hS : pS G s.heap s.heap [] := va_S.rf
  replace hl : lv_has ls 1 [(0, _)] := hl
  refine lv_aload_n X.1 X.2.1 dX3_init_0 rfl (lv_at hl 0 rfl) ?_
  refine W.objInit X.1 X.2.1 X.2.2.2.1 (X.2.2.2.2.1 _ kl_X3_3) (X.2.2.2.2.1 _ mi_obj.1) (X.2.2.2.2.1 _ mi_obj.2) rfl (by rw [X.2.2.1]; exact hl.1) rfl dX3_init_1 (Nat.le_of_ble_eq_true rfl) (Nat.le_of_ble_eq_true rfl) ?_
  refine W.eq (g2 := F0 m 4 ls []) rfl ?_
  refine lv_aload_n X.1 X.2.1 dX3_init_4 rfl (lv_at hl 0 rfl) ?_
  refine tn_ic (v := 0) X dX3_init_5 (by decide) ?_
  refine p_put (ty := .int) (fs' := [.int (nI 0), .int (nI 0), .int (nI 0), .int (nI 0), .int (nI 0)]) (ci := 3) (C := RX3) (T := TX3) (N := 5) X hP hS inA3 tyX3_ok nmX3 (by omega) hE rfl 0 (by decide) kl_X3_9 rfl rfl (by decide +kernel) rfl rfl (Nat.le_of_ble_eq_true rfl) rfl dX3_init_6 (fun H locs hP hS => ?_)
  obtain ⟨E1, hq1⟩ : ∃ z, z = va_up E (i) (.inr (3, [.int (nI 0), .int (nI 0), .int (nI 0), .int (nI 0), .int (nI 0)])) := ⟨_, rfl⟩
  rw [← hq1] at hP
  have hi1 : E1 (i) = .inr (3, [.int (nI 0), .int (nI 0), .int (nI 0), .int (nI 0), .int (nI 0)]) := by rw [hq1, va_up_self]
  have hn1 : ∀ y, y ≠ i → E1 y = E y := fun y hy => by rw [hq1, va_up_ne _ _ hy]
  clear hq1
  refine lv_aload_n X.1 X.2.1 dX3_init_9 rfl (lv_at hl 0 rfl) ?_
  refine tn_ic (v := 0) X dX3_init_10 (by decide) ?_
  refine p_put (ty := .int) (fs' := [.int (nI 0), .int (nI 0), .int (nI 0), .int (nI 0), .int (nI 0)]) (ci := 3) (C := RX3) (T := TX3) (N := 5) X hP hS inA3 tyX3_ok nmX3 (by omega) hi1 rfl 1 (by decide) kl_X3_15 rfl rfl (by decide +kernel) rfl rfl (Nat.le_of_ble_eq_true rfl) rfl dX3_init_11 (fun H locs hP hS => ?_)
  obtain ⟨E2, hq2⟩ : ∃ z, z = va_up E1 (i) (.inr (3, [.int (nI 0), .int (nI 0), .int (nI 0), .int (nI 0), .int (nI 0)])) := ⟨_, rfl⟩
  rw [← hq2] at hP
  have hi2 : E2 (i) = .inr (3, [.int (nI 0), .int (nI 0), .int (nI 0), .int (nI 0), .int (nI 0)]) := by rw [hq2, va_up_self]
  have hn2 : ∀ y, y ≠ i → E2 y = E1 y := fun y hy => by rw [hq2, va_up_ne _ _ hy]
  clear hq2
  refine lv_aload_n X.1 X.2.1 dX3_init_14 rfl (lv_at hl 0 rfl) ?_
  refine tn_ic (v := 0) X dX3_init_15 (by decide) ?_
  refine p_put (ty := .int) (fs' := [.int (nI 0), .int (nI 0), .int (nI 0), .int (nI 0), .int (nI 0)]) (ci := 3) (C := RX3) (T := TX3) (N := 5) X hP hS inA3 tyX3_ok nmX3 (by omega) hi2 rfl 2 (by decide) kl_X3_18 rfl rfl (by decide +kernel) rfl rfl (Nat.le_of_ble_eq_true rfl) rfl dX3_init_16 (fun H locs hP hS => ?_)
  obtain ⟨E3, hq3⟩ : ∃ z, z = va_up E2 (i) (.inr (3, [.int (nI 0), .int (nI 0), .int (nI 0), .int (nI 0), .int (nI 0)])) := ⟨_, rfl⟩
  rw [← hq3] at hP
  have hi3 : E3 (i) = .inr (3, [.int (nI 0), .int (nI 0), .int (nI 0), .int (nI 0), .int (nI 0)]) := by rw [hq3, va_up_self]
  have hn3 : ∀ y, y ≠ i → E3 y = E2 y := fun y hy => by rw [hq3, va_up_ne _ _ hy]
  clear hq3
  refine lv_aload_n X.1 X.2.1 dX3_init_19 rfl (lv_at hl 0 rfl) ?_
  refine tn_ldc (w := 610001) X kl_X3_21 (by decide) dX3_init_20 ?_
  refine p_put (ty := .int) (fs' := [.int (nI 0), .int (nI 0), .int (nI 0), .int (nI 610001), .int (nI 0)]) (ci := 3) (C := RX3) (T := TX3) (N := 5) X hP hS inA3 tyX3_ok nmX3 (by omega) hi3 rfl 3 (by decide) kl_X3_22 rfl rfl (by decide +kernel) rfl rfl (Nat.le_of_ble_eq_true rfl) rfl dX3_init_22 (fun H locs hP hS => ?_)
  obtain ⟨E4, hq4⟩ : ∃ z, z = va_up E3 (i) (.inr (3, [.int (nI 0), .int (nI 0), .int (nI 0), .int (nI 610001), .int (nI 0)])) := ⟨_, rfl⟩
  rw [← hq4] at hP
  have hi4 : E4 (i) = .inr (3, [.int (nI 0), .int (nI 0), .int (nI 0), .int (nI 610001), .int (nI 0)]) := by rw [hq4, va_up_self]
  have hn4 : ∀ y, y ≠ i → E4 y = E3 y := fun y hy => by rw [hq4, va_up_ne _ _ hy]
  clear hq4
  refine lv_aload_n X.1 X.2.1 dX3_init_25 rfl (lv_at hl 0 rfl) ?_
  refine tn_ldc (w := 610001) X kl_X3_21 (by decide) dX3_init_26 ?_
  refine p_put (ty := .int) (fs' := [.int (nI 0), .int (nI 0), .int (nI 0), .int (nI 610001), .int (nI 610001)]) (ci := 3) (C := RX3) (T := TX3) (N := 5) X hP hS inA3 tyX3_ok nmX3 (by omega) hi4 rfl 4 (by decide) kl_X3_25 rfl rfl (by decide +kernel) rfl rfl (Nat.le_of_ble_eq_true rfl) rfl dX3_init_28 (fun H locs hP hS => ?_)
  obtain ⟨E5, hq5⟩ : ∃ z, z = va_up E4 (i) (.inr (3, [.int (nI 0), .int (nI 0), .int (nI 0), .int (nI 610001), .int (nI 610001)])) := ⟨_, rfl⟩
  rw [← hq5] at hP
  have hi5 : E5 (i) = .inr (3, [.int (nI 0), .int (nI 0), .int (nI 0), .int (nI 610001), .int (nI 610001)]) := by rw [hq5, va_up_self]
  have hn5 : ∀ y, y ≠ i → E5 y = E4 y := fun y hy => by rw [hq5, va_up_ne _ _ hy]
  clear hq5
  exact rN (⟨hi5, fun j hj => by rw [hn5 j hj, hn4 j hj, hn3 j hj, hn2 j hj, hn1 j hj]⟩) X hP hS hret hlk dX3_init_31

set_option maxHeartbeats 4000000 in
set_option maxRecDepth 100000 in
theorem c_X0_init {l : Launch} {G : dG} {E : Nat → va_E} {i k : Nat} (hE : E i = .inr (0, [.int (nI 0), .int (nI 0), .int (nI 0), .int (nI 0), .int (nI 0), .int (nI 0)])) (hik : i < k) : cN l yX0_init cX0_init 1 1 0 0 G (i) (k) (k) E (fun E' => E' i = .inr (0, [.int (nI 0), .int (nI 0), .int (nI 0), .int (nI 0), .int (nI 0), .int (nI 0)]) ∧ ∀ j, j ≠ i → E' j = E j) := by
  refine cN_of (by decide +kernel) rfl (Nat.le_of_ble_eq_true rfl) ?_
  intro p e s m args below meth c ls X hP hNA hini hret hlk hl
  have hS : pS G s.heap s.heap [] := va_S.rf
  replace hl : lv_has ls 1 [(0, _)] := hl
  refine lv_aload_n X.1 X.2.1 dX0_init_0 rfl (lv_at hl 0 rfl) ?_
  refine W.objInit X.1 X.2.1 X.2.2.2.1 (X.2.2.2.2.1 _ kl_X0_3) (X.2.2.2.2.1 _ mi_obj.1) (X.2.2.2.2.1 _ mi_obj.2) rfl (by rw [X.2.2.1]; exact hl.1) rfl dX0_init_1 (Nat.le_of_ble_eq_true rfl) (Nat.le_of_ble_eq_true rfl) ?_
  refine W.eq (g2 := F0 m 4 ls []) rfl ?_
  refine lv_aload_n X.1 X.2.1 dX0_init_4 rfl (lv_at hl 0 rfl) ?_
  refine tn_ic (v := 0) X dX0_init_5 (by decide) ?_
  refine p_put (ty := .int) (fs' := [.int (nI 0), .int (nI 0), .int (nI 0), .int (nI 0), .int (nI 0), .int (nI 0)]) (ci := 0) (C := RX0) (T := TX0) (N := 6) X hP hS inA0 tyX0_ok nmX0 (by omega) hE rfl 0 (by decide) kl_X0_9 rfl rfl (by decide +kernel) rfl rfl (Nat.le_of_ble_eq_true rfl) rfl dX0_init_6 (fun H locs hP hS => ?_)
  obtain ⟨E1, hq1⟩ : ∃ z, z = va_up E (i) (.inr (0, [.int (nI 0), .int (nI 0), .int (nI 0), .int (nI 0), .int (nI 0), .int (nI 0)])) := ⟨_, rfl⟩
  rw [← hq1] at hP
  have hi1 : E1 (i) = .inr (0, [.int (nI 0), .int (nI 0), .int (nI 0), .int (nI 0), .int (nI 0), .int (nI 0)]) := by rw [hq1, va_up_self]
  have hn1 : ∀ y, y ≠ i → E1 y = E y := fun y hy => by rw [hq1, va_up_ne _ _ hy]
  clear hq1
  refine lv_aload_n X.1 X.2.1 dX0_init_9 rfl (lv_at hl 0 rfl) ?_
  refine tn_ic (v := 0) X dX0_init_10 (by decide) ?_
  refine p_put (ty := .int) (fs' := [.int (nI 0), .int (nI 0), .int (nI 0), .int (nI 0), .int (nI 0), .int (nI 0)]) (ci := 0) (C := RX0) (T := TX0) (N := 6) X hP hS inA0 tyX0_ok nmX0 (by omega) hi1 rfl 1 (by decide) kl_X0_15 rfl rfl (by decide +kernel) rfl rfl (Nat.le_of_ble_eq_true rfl) rfl dX0_init_11 (fun H locs hP hS => ?_)
  obtain ⟨E2, hq2⟩ : ∃ z, z = va_up E1 (i) (.inr (0, [.int (nI 0), .int (nI 0), .int (nI 0), .int (nI 0), .int (nI 0), .int (nI 0)])) := ⟨_, rfl⟩
  rw [← hq2] at hP
  have hi2 : E2 (i) = .inr (0, [.int (nI 0), .int (nI 0), .int (nI 0), .int (nI 0), .int (nI 0), .int (nI 0)]) := by rw [hq2, va_up_self]
  have hn2 : ∀ y, y ≠ i → E2 y = E1 y := fun y hy => by rw [hq2, va_up_ne _ _ hy]
  clear hq2
  refine lv_aload_n X.1 X.2.1 dX0_init_14 rfl (lv_at hl 0 rfl) ?_
  refine tn_ic (v := 0) X dX0_init_15 (by decide) ?_
  refine p_put (ty := .int) (fs' := [.int (nI 0), .int (nI 0), .int (nI 0), .int (nI 0), .int (nI 0), .int (nI 0)]) (ci := 0) (C := RX0) (T := TX0) (N := 6) X hP hS inA0 tyX0_ok nmX0 (by omega) hi2 rfl 2 (by decide) kl_X0_18 rfl rfl (by decide +kernel) rfl rfl (Nat.le_of_ble_eq_true rfl) rfl dX0_init_16 (fun H locs hP hS => ?_)
  obtain ⟨E3, hq3⟩ : ∃ z, z = va_up E2 (i) (.inr (0, [.int (nI 0), .int (nI 0), .int (nI 0), .int (nI 0), .int (nI 0), .int (nI 0)])) := ⟨_, rfl⟩
  rw [← hq3] at hP
  have hi3 : E3 (i) = .inr (0, [.int (nI 0), .int (nI 0), .int (nI 0), .int (nI 0), .int (nI 0), .int (nI 0)]) := by rw [hq3, va_up_self]
  have hn3 : ∀ y, y ≠ i → E3 y = E2 y := fun y hy => by rw [hq3, va_up_ne _ _ hy]
  clear hq3
  refine lv_aload_n X.1 X.2.1 dX0_init_19 rfl (lv_at hl 0 rfl) ?_
  refine tn_ic (v := 0) X dX0_init_20 (by decide) ?_
  refine p_put (ty := .int) (fs' := [.int (nI 0), .int (nI 0), .int (nI 0), .int (nI 0), .int (nI 0), .int (nI 0)]) (ci := 0) (C := RX0) (T := TX0) (N := 6) X hP hS inA0 tyX0_ok nmX0 (by omega) hi3 rfl 3 (by decide) kl_X0_21 rfl rfl (by decide +kernel) rfl rfl (Nat.le_of_ble_eq_true rfl) rfl dX0_init_21 (fun H locs hP hS => ?_)
  obtain ⟨E4, hq4⟩ : ∃ z, z = va_up E3 (i) (.inr (0, [.int (nI 0), .int (nI 0), .int (nI 0), .int (nI 0), .int (nI 0), .int (nI 0)])) := ⟨_, rfl⟩
  rw [← hq4] at hP
  have hi4 : E4 (i) = .inr (0, [.int (nI 0), .int (nI 0), .int (nI 0), .int (nI 0), .int (nI 0), .int (nI 0)]) := by rw [hq4, va_up_self]
  have hn4 : ∀ y, y ≠ i → E4 y = E3 y := fun y hy => by rw [hq4, va_up_ne _ _ hy]
  clear hq4
  refine lv_aload_n X.1 X.2.1 dX0_init_24 rfl (lv_at hl 0 rfl) ?_
  refine tn_ic (v := 0) X dX0_init_25 (by decide) ?_
  refine p_put (ty := .int) (fs' := [.int (nI 0), .int (nI 0), .int (nI 0), .int (nI 0), .int (nI 0), .int (nI 0)]) (ci := 0) (C := RX0) (T := TX0) (N := 6) X hP hS inA0 tyX0_ok nmX0 (by omega) hi4 rfl 4 (by decide) kl_X0_24 rfl rfl (by decide +kernel) rfl rfl (Nat.le_of_ble_eq_true rfl) rfl dX0_init_26 (fun H locs hP hS => ?_)
  obtain ⟨E5, hq5⟩ : ∃ z, z = va_up E4 (i) (.inr (0, [.int (nI 0), .int (nI 0), .int (nI 0), .int (nI 0), .int (nI 0), .int (nI 0)])) := ⟨_, rfl⟩
  rw [← hq5] at hP
  have hi5 : E5 (i) = .inr (0, [.int (nI 0), .int (nI 0), .int (nI 0), .int (nI 0), .int (nI 0), .int (nI 0)]) := by rw [hq5, va_up_self]
  have hn5 : ∀ y, y ≠ i → E5 y = E4 y := fun y hy => by rw [hq5, va_up_ne _ _ hy]
  clear hq5
  refine lv_aload_n X.1 X.2.1 dX0_init_29 rfl (lv_at hl 0 rfl) ?_
  refine tn_ic (v := 0) X dX0_init_30 (by decide) ?_
  refine p_put (ty := .int) (fs' := [.int (nI 0), .int (nI 0), .int (nI 0), .int (nI 0), .int (nI 0), .int (nI 0)]) (ci := 0) (C := RX0) (T := TX0) (N := 6) X hP hS inA0 tyX0_ok nmX0 (by omega) hi5 rfl 5 (by decide) kl_X0_27 rfl rfl (by decide +kernel) rfl rfl (Nat.le_of_ble_eq_true rfl) rfl dX0_init_31 (fun H locs hP hS => ?_)
  obtain ⟨E6, hq6⟩ : ∃ z, z = va_up E5 (i) (.inr (0, [.int (nI 0), .int (nI 0), .int (nI 0), .int (nI 0), .int (nI 0), .int (nI 0)])) := ⟨_, rfl⟩
  rw [← hq6] at hP
  have hi6 : E6 (i) = .inr (0, [.int (nI 0), .int (nI 0), .int (nI 0), .int (nI 0), .int (nI 0), .int (nI 0)]) := by rw [hq6, va_up_self]
  have hn6 : ∀ y, y ≠ i → E6 y = E5 y := fun y hy => by rw [hq6, va_up_ne _ _ hy]
  clear hq6
  exact rN (⟨hi6, fun j hj => by rw [hn6 j hj, hn5 j hj, hn4 j hj, hn3 j hj, hn2 j hj, hn1 j hj]⟩) X hP hS hret hlk dX0_init_34

set_option maxHeartbeats 4000000 in
set_option maxRecDepth 100000 in
theorem c_X2_init {l : Launch} {G : dG} {E : Nat → va_E} {i : Nat} (hE : E i = .inr (2, [.null, .int (nI 0), .int (nI 0), .int (nI 0)])) : cN l yX2_init cX2_init 1 2 4 33 G (i) (i + 1) (i + 5) E (fun E' => E' i = .inr (2, [.ref (ra G (i + 1)), .int (nI 0), .int (nI 0), .int (nI 0)]) ∧ lotN G (i + 1) E' ∧ ∀ j, j < i → E' j = E j) := by
  refine cN_of (by decide +kernel) rfl (Nat.le_of_ble_eq_true rfl) ?_
  intro p e s m args below meth c ls X hP hNA hini hret hlk hl
  have hS : pS G s.heap s.heap [] := va_S.rf
  replace hl : lv_has ls 1 [(0, _)] := hl
  refine lv_aload_n X.1 X.2.1 dX2_init_0 rfl (lv_at hl 0 rfl) ?_
  refine W.objInit X.1 X.2.1 X.2.2.2.1 (X.2.2.2.2.1 _ kl_X2_3) (X.2.2.2.2.1 _ mi_obj.1) (X.2.2.2.2.1 _ mi_obj.2) rfl (by rw [X.2.2.1]; exact hl.1) rfl dX2_init_1 (Nat.le_of_ble_eq_true rfl) (Nat.le_of_ble_eq_true rfl) ?_
  refine W.eq (g2 := F0 m 4 ls []) rfl ?_
  refine lv_aload_n X.1 X.2.1 dX2_init_4 rfl (lv_at hl 0 rfl) ?_
  refine p_new (ci := 1) (C := RX1) (T := TX1) (N := 3) (fs := [.null, .null, .null]) X hP hS inA1 tyX1_ok kc_X2_9 ki_X1 kn_X1 rfl (fun j hj => by rcases (show j = 0 ∨ j = 1 ∨ j = 2 by omega) with rfl | rfl | rfl <;> rfl) (Nat.le_of_ble_eq_true rfl) (Nat.le_of_ble_eq_true rfl) dX2_init_5 (fun H hP hS => ?_)
  obtain ⟨E1, hq1⟩ : ∃ z, z = va_up E (i + 1) (.inr (1, [.null, .null, .null])) := ⟨_, rfl⟩
  rw [← hq1] at hP
  have hi1 : E1 (i + 1) = .inr (1, [.null, .null, .null]) := by rw [hq1, va_up_self]
  have hn1 : ∀ y, y ≠ i + 1 → E1 y = E y := fun y hy => by rw [hq1, va_up_ne _ _ hy]
  clear hq1
  refine lv_dup X.1 X.2.1 dX2_init_8 rfl ?_
  refine kNC X hP hS hl.1 (c_X1_init hi1) kl_X2_11 mi_X1 kn_X1 (by decide +kernel) hNA ⟨Nat.le_of_ble_eq_true rfl, Nat.le_of_ble_eq_true rfl⟩ ⟨Nat.le_of_ble_eq_true rfl, Nat.le_of_ble_eq_true rfl⟩ rfl (Nat.le_of_ble_eq_true rfl) dX2_init_9 (fun E2 H locs hl2 hP hS => ?_)
  obtain ⟨hlot, hk2⟩ := hl2
  have hE2 : E2 i = .inr (2, [.null, .int (nI 0), .int (nI 0), .int (nI 0)]) := by rw [hk2 i (by omega), hn1 i (by omega)]; exact hE
  refine p_putF (ty := .object "CouponDesk$Lot") (fs' := [.ref (ra G (i + 1)), .int (nI 0), .int (nI 0), .int (nI 0)]) (ci := 2) (C := RX2) (T := TX2) (N := 4) X hini hP hS inA2 tyX2_ok nmX2 (by omega) hE2 rfl 0 (by decide) kl_X2_12 rfl rfl (by decide +kernel) rfl rfl (Nat.le_of_ble_eq_true rfl) rfl dX2_init_12 (fun H locs hP hS => ?_)
  obtain ⟨E3, hq3⟩ : ∃ z, z = va_up E2 (i) (.inr (2, [.ref (ra G (i + 1)), .int (nI 0), .int (nI 0), .int (nI 0)])) := ⟨_, rfl⟩
  rw [← hq3] at hP
  have hi3 : E3 (i) = .inr (2, [.ref (ra G (i + 1)), .int (nI 0), .int (nI 0), .int (nI 0)]) := by rw [hq3, va_up_self]
  have hn3 : ∀ y, y ≠ i → E3 y = E2 y := fun y hy => by rw [hq3, va_up_ne _ _ hy]
  clear hq3
  refine lv_aload_n X.1 X.2.1 dX2_init_15 rfl (lv_at hl 0 rfl) ?_
  refine tn_ic (v := 0) X dX2_init_16 (by decide) ?_
  refine p_put (ty := .int) (fs' := [.ref (ra G (i + 1)), .int (nI 0), .int (nI 0), .int (nI 0)]) (ci := 2) (C := RX2) (T := TX2) (N := 4) X hP hS inA2 tyX2_ok nmX2 (by omega) hi3 rfl 1 (by decide) kl_X2_18 rfl rfl (by decide +kernel) rfl rfl (Nat.le_of_ble_eq_true rfl) rfl dX2_init_17 (fun H locs hP hS => ?_)
  obtain ⟨E4, hq4⟩ : ∃ z, z = va_up E3 (i) (.inr (2, [.ref (ra G (i + 1)), .int (nI 0), .int (nI 0), .int (nI 0)])) := ⟨_, rfl⟩
  rw [← hq4] at hP
  have hi4 : E4 (i) = .inr (2, [.ref (ra G (i + 1)), .int (nI 0), .int (nI 0), .int (nI 0)]) := by rw [hq4, va_up_self]
  have hn4 : ∀ y, y ≠ i → E4 y = E3 y := fun y hy => by rw [hq4, va_up_ne _ _ hy]
  clear hq4
  refine lv_aload_n X.1 X.2.1 dX2_init_20 rfl (lv_at hl 0 rfl) ?_
  refine tn_ic (v := 0) X dX2_init_21 (by decide) ?_
  refine p_put (ty := .int) (fs' := [.ref (ra G (i + 1)), .int (nI 0), .int (nI 0), .int (nI 0)]) (ci := 2) (C := RX2) (T := TX2) (N := 4) X hP hS inA2 tyX2_ok nmX2 (by omega) hi4 rfl 2 (by decide) kl_X2_22 rfl rfl (by decide +kernel) rfl rfl (Nat.le_of_ble_eq_true rfl) rfl dX2_init_22 (fun H locs hP hS => ?_)
  obtain ⟨E5, hq5⟩ : ∃ z, z = va_up E4 (i) (.inr (2, [.ref (ra G (i + 1)), .int (nI 0), .int (nI 0), .int (nI 0)])) := ⟨_, rfl⟩
  rw [← hq5] at hP
  have hi5 : E5 (i) = .inr (2, [.ref (ra G (i + 1)), .int (nI 0), .int (nI 0), .int (nI 0)]) := by rw [hq5, va_up_self]
  have hn5 : ∀ y, y ≠ i → E5 y = E4 y := fun y hy => by rw [hq5, va_up_ne _ _ hy]
  clear hq5
  refine lv_aload_n X.1 X.2.1 dX2_init_25 rfl (lv_at hl 0 rfl) ?_
  refine tn_ic (v := 0) X dX2_init_26 (by decide) ?_
  refine p_put (ty := .int) (fs' := [.ref (ra G (i + 1)), .int (nI 0), .int (nI 0), .int (nI 0)]) (ci := 2) (C := RX2) (T := TX2) (N := 4) X hP hS inA2 tyX2_ok nmX2 (by omega) hi5 rfl 3 (by decide) kl_X2_25 rfl rfl (by decide +kernel) rfl rfl (Nat.le_of_ble_eq_true rfl) rfl dX2_init_27 (fun H locs hP hS => ?_)
  obtain ⟨E6, hq6⟩ : ∃ z, z = va_up E5 (i) (.inr (2, [.ref (ra G (i + 1)), .int (nI 0), .int (nI 0), .int (nI 0)])) := ⟨_, rfl⟩
  rw [← hq6] at hP
  have hi6 : E6 (i) = .inr (2, [.ref (ra G (i + 1)), .int (nI 0), .int (nI 0), .int (nI 0)]) := by rw [hq6, va_up_self]
  have hn6 : ∀ y, y ≠ i → E6 y = E5 y := fun y hy => by rw [hq6, va_up_ne _ _ hy]
  clear hq6
  exact rN (⟨hi6, lotN_keep hlot (fun j h1 => by rw [hn6 j (by omega), hn5 j (by omega), hn4 j (by omega), hn3 j (by omega)]), fun j hj => by rw [hn6 j (by omega), hn5 j (by omega), hn4 j (by omega), hn3 j (by omega), hk2 j (by omega), hn1 j (by omega)]⟩) X hP hS hret hlk dX2_init_30

set_option maxHeartbeats 4000000 in
set_option maxRecDepth 100000 in
theorem c_X4_init {l : Launch} {G : dG} {E : Nat → va_E} {i : Nat} (hE : E i = .inr (4, [.null, .null, .null, .null, .int (nI 0)])) : cN l yX4_init cX4_init 1 1 13 729 G (i) (i + 1) (i + 14) E (fun E' => E' i = .inr (4, [.ref (ra G (i + 1)), .ref (ra G (i + 2)), .ref (ra G (i + 3)), .ref (ra G (i + 13)), .int (nI 0)]) ∧ E' (i + 1) = aI G 60 (fun _ => 0) ∧ E' (i + 2) = aI G 60 (fun _ => 0) ∧ E' (i + 3) = .inl (G.2.1.2.2.2, 9, .inr (.inr (.inr (.inr (fun j => if j < 9 then some (ra G (i + 3 + 1 + j)) else none))))) ∧ (∀ j, i + 4 ≤ j → j ≤ i + 13 → E' j = aI G 60 (fun _ => 0)) ∧ ∀ j, j < i → E' j = E j) := by
  refine cN_of (by decide +kernel) rfl (Nat.le_of_ble_eq_true rfl) ?_
  intro p e s m args below meth c ls X hP hNA hini hret hlk hl
  have hS : pS G s.heap s.heap [] := va_S.rf
  replace hl : lv_has ls 1 [(0, _)] := hl
  refine lv_aload_n X.1 X.2.1 dX4_init_0 rfl (lv_at hl 0 rfl) ?_
  refine W.objInit X.1 X.2.1 X.2.2.2.1 (X.2.2.2.2.1 _ kl_X4_3) (X.2.2.2.2.1 _ mi_obj.1) (X.2.2.2.2.1 _ mi_obj.2) rfl (by rw [X.2.2.1]; exact hl.1) rfl dX4_init_1 (Nat.le_of_ble_eq_true rfl) (Nat.le_of_ble_eq_true rfl) ?_
  refine W.eq (g2 := F0 m 4 ls []) rfl ?_
  refine lv_aload_n X.1 X.2.1 dX4_init_4 rfl (lv_at hl 0 rfl) ?_
  refine tn_bi (v := 60) X dX4_init_5 (by decide) ?_
  refine p_newI X hP hS ka_int (by decide) (Nat.le_of_ble_eq_true rfl) (Nat.le_of_ble_eq_true rfl) dX4_init_7 (fun H hP hS => ?_)
  obtain ⟨E1, hq1⟩ : ∃ z, z = va_up E (i + 1) (aI G 60 (fun _ => 0)) := ⟨_, rfl⟩
  rw [← hq1] at hP
  have hi1 : E1 (i + 1) = aI G 60 (fun _ => 0) := by rw [hq1, va_up_self]
  have hn1 : ∀ y, y ≠ i + 1 → E1 y = E y := fun y hy => by rw [hq1, va_up_ne _ _ hy]
  clear hq1
  have hE100 : E1 i = .inr (4, [.null, .null, .null, .null, .int (nI 0)]) := by rw [hn1 i (by omega)]; exact hE
  refine p_putF (ty := .array .int) (fs' := [.ref (ra G (i + 1)), .null, .null, .null, .int (nI 0)]) (ci := 4) (C := RX4) (T := TX4) (N := 5) X hini hP hS inA4 tyX4_ok nmX4 (by omega) hE100 rfl 0 (by decide) kl_X4_9 rfl rfl (by decide +kernel) rfl rfl (Nat.le_of_ble_eq_true rfl) rfl dX4_init_9 (fun H locs hP hS => ?_)
  obtain ⟨E2, hq2⟩ : ∃ z, z = va_up E1 (i) (.inr (4, [.ref (ra G (i + 1)), .null, .null, .null, .int (nI 0)])) := ⟨_, rfl⟩
  rw [← hq2] at hP
  have hi2 : E2 (i) = .inr (4, [.ref (ra G (i + 1)), .null, .null, .null, .int (nI 0)]) := by rw [hq2, va_up_self]
  have hn2 : ∀ y, y ≠ i → E2 y = E1 y := fun y hy => by rw [hq2, va_up_ne _ _ hy]
  clear hq2
  refine lv_aload_n X.1 X.2.1 dX4_init_12 rfl (lv_at hl 0 rfl) ?_
  refine tn_bi (v := 60) X dX4_init_13 (by decide) ?_
  refine p_newI X hP hS ka_int (by decide) (Nat.le_of_ble_eq_true rfl) (Nat.le_of_ble_eq_true rfl) dX4_init_15 (fun H hP hS => ?_)
  obtain ⟨E3, hq3⟩ : ∃ z, z = va_up E2 (i + 2) (aI G 60 (fun _ => 0)) := ⟨_, rfl⟩
  rw [← hq3] at hP
  have hi3 : E3 (i + 2) = aI G 60 (fun _ => 0) := by rw [hq3, va_up_self]
  have hn3 : ∀ y, y ≠ i + 2 → E3 y = E2 y := fun y hy => by rw [hq3, va_up_ne _ _ hy]
  clear hq3
  have hE101 : E3 i = .inr (4, [.ref (ra G (i + 1)), .null, .null, .null, .int (nI 0)]) := by rw [hn3 i (by omega)]; exact hi2
  refine p_putF (ty := .array .int) (fs' := [.ref (ra G (i + 1)), .ref (ra G (i + 2)), .null, .null, .int (nI 0)]) (ci := 4) (C := RX4) (T := TX4) (N := 5) X hini hP hS inA4 tyX4_ok nmX4 (by omega) hE101 rfl 1 (by decide) kl_X4_15 rfl rfl (by decide +kernel) rfl rfl (Nat.le_of_ble_eq_true rfl) rfl dX4_init_17 (fun H locs hP hS => ?_)
  obtain ⟨E4, hq4⟩ : ∃ z, z = va_up E3 (i) (.inr (4, [.ref (ra G (i + 1)), .ref (ra G (i + 2)), .null, .null, .int (nI 0)])) := ⟨_, rfl⟩
  rw [← hq4] at hP
  have hi4 : E4 (i) = .inr (4, [.ref (ra G (i + 1)), .ref (ra G (i + 2)), .null, .null, .int (nI 0)]) := by rw [hq4, va_up_self]
  have hn4 : ∀ y, y ≠ i → E4 y = E3 y := fun y hy => by rw [hq4, va_up_ne _ _ hy]
  clear hq4
  refine lv_aload_n X.1 X.2.1 dX4_init_20 rfl (lv_at hl 0 rfl) ?_
  refine tn_bi (v := 9) X dX4_init_21 (by decide) ?_
  refine tn_bi (v := 60) X dX4_init_23 (by decide) ?_
  refine p_mna X hP hS kc_X4_18 hNA.2.2 ka_int (by decide) (by decide) (Nat.le_of_ble_eq_true rfl) (Nat.le_of_ble_eq_true rfl) dX4_init_25 (fun H hP hS => ?_)
  obtain ⟨E5, hq5⟩ : ∃ z, z = (fun x => if x < i + 1 + 1 + 1 then E4 x else if x = i + 1 + 1 + 1 then .inl (G.2.1.2.2.2, 9, .inr (.inr (.inr (.inr (fun j => if j < 9 then some (ra G (i + 1 + 1 + 1 + 1 + j)) else none))))) else aI G 60 (fun _ => 0)) := ⟨_, rfl⟩
  rw [← hq5] at hP
  have hlo5 : ∀ j, j < i + 3 → E5 j = E4 j := fun j hj => by rw [hq5]; exact if_pos (by omega)
  have hou5 : E5 (i + 3) = .inl (G.2.1.2.2.2, 9, .inr (.inr (.inr (.inr (fun j => if j < 9 then some (ra G (i + 3 + 1 + j)) else none))))) := by rw [hq5]; exact (if_neg (by omega)).trans (if_pos (by omega))
  have hro5 : ∀ j, i + 4 ≤ j → E5 j = aI G 60 (fun _ => 0) := fun j hj => by rw [hq5]; exact (if_neg (by omega)).trans (if_neg (by omega))
  clear hq5
  have hE105 : E5 i = .inr (4, [.ref (ra G (i + 1)), .ref (ra G (i + 2)), .null, .null, .int (nI 0)]) := by rw [hlo5 i (by omega)]; exact hi4
  refine p_putF (ty := .array (.array .int)) (fs' := [.ref (ra G (i + 1)), .ref (ra G (i + 2)), .ref (ra G (i + 3)), .null, .int (nI 0)]) (ci := 4) (C := RX4) (T := TX4) (N := 5) X hini hP hS inA4 tyX4_ok nmX4 (by omega) hE105 rfl 2 (by decide) kl_X4_20 rfl rfl (by decide +kernel) rfl rfl (Nat.le_of_ble_eq_true rfl) rfl dX4_init_29 (fun H locs hP hS => ?_)
  obtain ⟨E6, hq6⟩ : ∃ z, z = va_up E5 (i) (.inr (4, [.ref (ra G (i + 1)), .ref (ra G (i + 2)), .ref (ra G (i + 3)), .null, .int (nI 0)])) := ⟨_, rfl⟩
  rw [← hq6] at hP
  have hi6 : E6 (i) = .inr (4, [.ref (ra G (i + 1)), .ref (ra G (i + 2)), .ref (ra G (i + 3)), .null, .int (nI 0)]) := by rw [hq6, va_up_self]
  have hn6 : ∀ y, y ≠ i → E6 y = E5 y := fun y hy => by rw [hq6, va_up_ne _ _ hy]
  clear hq6
  replace hP : pM G E6 (i + 13) H := hP
  refine lv_aload_n X.1 X.2.1 dX4_init_32 rfl (lv_at hl 0 rfl) ?_
  refine tn_bi (v := 60) X dX4_init_33 (by decide) ?_
  refine p_newI X hP hS ka_int (by decide) (Nat.le_of_ble_eq_true rfl) (Nat.le_of_ble_eq_true rfl) dX4_init_35 (fun H hP hS => ?_)
  obtain ⟨E7, hq7⟩ : ∃ z, z = va_up E6 (i + 13) (aI G 60 (fun _ => 0)) := ⟨_, rfl⟩
  rw [← hq7] at hP
  have hi7 : E7 (i + 13) = aI G 60 (fun _ => 0) := by rw [hq7, va_up_self]
  have hn7 : ∀ y, y ≠ i + 13 → E7 y = E6 y := fun y hy => by rw [hq7, va_up_ne _ _ hy]
  clear hq7
  have hE103 : E7 i = .inr (4, [.ref (ra G (i + 1)), .ref (ra G (i + 2)), .ref (ra G (i + 3)), .null, .int (nI 0)]) := by rw [hn7 i (by omega)]; exact hi6
  refine p_putF (ty := .array .int) (fs' := [.ref (ra G (i + 1)), .ref (ra G (i + 2)), .ref (ra G (i + 3)), .ref (ra G (i + 13)), .int (nI 0)]) (ci := 4) (C := RX4) (T := TX4) (N := 5) X hini hP hS inA4 tyX4_ok nmX4 (by omega) hE103 rfl 3 (by decide) kl_X4_23 rfl rfl (by decide +kernel) rfl rfl (Nat.le_of_ble_eq_true rfl) rfl dX4_init_37 (fun H locs hP hS => ?_)
  obtain ⟨E8, hq8⟩ : ∃ z, z = va_up E7 (i) (.inr (4, [.ref (ra G (i + 1)), .ref (ra G (i + 2)), .ref (ra G (i + 3)), .ref (ra G (i + 13)), .int (nI 0)])) := ⟨_, rfl⟩
  rw [← hq8] at hP
  have hi8 : E8 (i) = .inr (4, [.ref (ra G (i + 1)), .ref (ra G (i + 2)), .ref (ra G (i + 3)), .ref (ra G (i + 13)), .int (nI 0)]) := by rw [hq8, va_up_self]
  have hn8 : ∀ y, y ≠ i → E8 y = E7 y := fun y hy => by rw [hq8, va_up_ne _ _ hy]
  clear hq8
  refine lv_aload_n X.1 X.2.1 dX4_init_40 rfl (lv_at hl 0 rfl) ?_
  refine tn_ic (v := 0) X dX4_init_41 (by decide) ?_
  refine p_put (ty := .int) (fs' := [.ref (ra G (i + 1)), .ref (ra G (i + 2)), .ref (ra G (i + 3)), .ref (ra G (i + 13)), .int (nI 0)]) (ci := 4) (C := RX4) (T := TX4) (N := 5) X hP hS inA4 tyX4_ok nmX4 (by omega) hi8 rfl 4 (by decide) kl_X4_26 rfl rfl (by decide +kernel) rfl rfl (Nat.le_of_ble_eq_true rfl) rfl dX4_init_42 (fun H locs hP hS => ?_)
  obtain ⟨E9, hq9⟩ : ∃ z, z = va_up E8 (i) (.inr (4, [.ref (ra G (i + 1)), .ref (ra G (i + 2)), .ref (ra G (i + 3)), .ref (ra G (i + 13)), .int (nI 0)])) := ⟨_, rfl⟩
  rw [← hq9] at hP
  have hi9 : E9 (i) = .inr (4, [.ref (ra G (i + 1)), .ref (ra G (i + 2)), .ref (ra G (i + 3)), .ref (ra G (i + 13)), .int (nI 0)]) := by rw [hq9, va_up_self]
  have hn9 : ∀ y, y ≠ i → E9 y = E8 y := fun y hy => by rw [hq9, va_up_ne _ _ hy]
  clear hq9
  exact rN (⟨hi9, by rw [hn9 _ (by omega), hn8 _ (by omega), hn7 _ (by omega), hn6 _ (by omega), hlo5 _ (by omega), hn4 _ (by omega), hn3 _ (by omega), hn2 _ (by omega)]; exact hi1, by rw [hn9 _ (by omega), hn8 _ (by omega), hn7 _ (by omega), hn6 _ (by omega), hlo5 _ (by omega), hn4 _ (by omega)]; exact hi3, by rw [hn9 _ (by omega), hn8 _ (by omega), hn7 _ (by omega), hn6 _ (by omega)]; exact hou5, fun j h1 h2 => tray_r hi7 h1 h2 (by rw [hn9 j (by omega), hn8 j (by omega)]) (fun h3 => by rw [hn7 j h3, hn6 j (by omega)]; exact hro5 j h1), fun j hj => by rw [hn9 j (by omega), hn8 j (by omega), hn7 j (by omega), hn6 j (by omega), hlo5 j (by omega), hn4 j (by omega), hn3 j (by omega), hn2 j (by omega), hn1 j (by omega)]⟩) X hP hS hret hlk dX4_init_45
