/-! ===== the class on a fresh desk: addCoupon where it throws; orderCount, level, digest ===== -/
def cJ (l : Launch) (y : MethodName) (b : ByteArray) (n d : Nat) (G : dG) (av : List Value) (v : Int64) : Prop :=
  ∀ sz, Met l y (wsD y b n (some .long)) (rmD d) (dPc G sz nu0 av) (va_Ql (fun (x : Int64) (_ : Unit) => x = v) (fun _ t => dM G nu0 t.heap) (dA G sz)) 0 0 (dA G sz)
def cD (l : Launch) (y : MethodName) (b : ByteArray) (n d : Nat) (G : dG) (av : List Value) (v : UInt64) : Prop :=
  ∀ sz, Met l y (wsD y b n (some .double)) (rmD d) (dPc G sz nu0 av) (va_Qd (fun (x : UInt64) (_ : Unit) => x = v) (fun _ t => dM G nu0 t.heap) (dA G sz)) 0 0 (dA G sz)
theorem cJ_of {l : Launch} {y : MethodName} {b : ByteArray} {n d : Nat} {G : dG} {av : List Value} {v : Int64} (hy : plainName y.cls = true) (hn : (lg_sl av).length ≤ n)
    (body : ∀ (p : Program) (e : Env) (s : State) (m : MethodId) (args : Array Value) (below : List Frame) (meth : Method) (c : Code) (ls : Array Slot), dC p s m args c b n y.cls G → dM G nu0 s.heap → meth.sig.returnType = some .long → meth.locks = false → lv_has ls n (lv_args 0 av) →
      W p l e (rmD d) s m args below meth c s.heap [] 0 0 (MQ below (va_Ql (fun (x : Int64) (_ : Unit) => x = v) (fun _ t => dM G nu0 t.heap) (dA G s.heap.size)) args s 0 0 (dA G s.heap.size)) (F0 m 0 ls [])) : cJ l y b n d G av v := by
  intro sz
  refine Met.ofW (cc := b) (maxL := n) (ret := some .long) hy rfl ?_
  intro p e s m args below meth c s₁ B hml hv
  obtain ⟨rfl, hsz, hM, hK⟩ := hv
  subst hsz
  have hts := atoms_spec (ws := wsD y b n (some .long)) B.pre
  have hl := lv_entry av hn
  rw [lg_entry_eq]
  exact body p e s m _ below meth c _ ⟨B.exec, B.bytes, hml, findClass_of_methodNamed B.named, fun w h => hts w (List.mem_cons_of_mem _ h), hK⟩ hM B.returns B.notSynchronized hl
theorem cD_of {l : Launch} {y : MethodName} {b : ByteArray} {n d : Nat} {G : dG} {av : List Value} {v : UInt64} (hy : plainName y.cls = true) (hn : (lg_sl av).length ≤ n)
    (body : ∀ (p : Program) (e : Env) (s : State) (m : MethodId) (args : Array Value) (below : List Frame) (meth : Method) (c : Code) (ls : Array Slot), dC p s m args c b n y.cls G → dM G nu0 s.heap → meth.sig.returnType = some .double → meth.locks = false → lv_has ls n (lv_args 0 av) →
      W p l e (rmD d) s m args below meth c s.heap [] 0 0 (MQ below (va_Qd (fun (x : UInt64) (_ : Unit) => x = v) (fun _ t => dM G nu0 t.heap) (dA G s.heap.size)) args s 0 0 (dA G s.heap.size)) (F0 m 0 ls [])) : cD l y b n d G av v := by
  intro sz
  refine Met.ofW (cc := b) (maxL := n) (ret := some .double) hy rfl ?_
  intro p e s m args below meth c s₁ B hml hv
  obtain ⟨rfl, hsz, hM, hK⟩ := hv
  subst hsz
  have hts := atoms_spec (ws := wsD y b n (some .double)) B.pre
  have hl := lv_entry av hn
  rw [lg_entry_eq]
  exact body p e s m _ below meth c _ ⟨B.exec, B.bytes, hml, findClass_of_methodNamed B.named, fun w h => hts w (List.mem_cons_of_mem _ h), hK⟩ hM B.returns B.notSynchronized hl
section RX2
variable {p : Program} {l : Launch} {e : Env} {R : Room} {s : State} {m : MethodId} {args : Array Value} {below : List Frame} {meth : Method} {c : Code} {H : Heap} {locs : List Loc} {cells slots : Nat} {Q : State → Prop}
variable {cc : ByteArray} {pc nL : Nat} {ls : Array Slot} {rest : List Value} {own : String} {G : dG} {H0 : Heap} {v : Int64} {y : MethodName} {b : ByteArray} {nY d index : Nat} {As st : List Value}
theorem kVJ (X : dC p s m args c cc nL own G) (hM : dM G nu0 H) (hS : dS G H0 H locs) (hl : ls.size = nL) (hc : cJ l y b nY d G (.ref (ra G 0) :: As) v) (hqc : RX5 = y.cls) (hlink : Cond.methodLink own index y ∈ allW) (mf : mfV y b nY As.length (some .long)) (hR : d + 1 ≤ R.frames ∧ 8 + (nY + 11) + 40 * d ≤ R.locals) (hcs : cells ≤ R.cells ∧ slots ≤ R.slots) (hstk : st = As.reverse ++ .ref (ra G 0) :: rest) (hst : (rest.map fun v => v.category).sum ≤ 8) (hdg : decode cc pc = .ok (.invokevirtual index, 3))
    (kk : ∀ (H1 : Heap) (locs1 : List Loc), dM G nu0 H1 → dS G H0 H1 locs1 → W p l e R s m args below meth c H1 locs1 cells slots Q (F0 m (pc + 3) ls (.long v :: rest))) : W p l e R s m args below meth c H locs cells slots Q (F0 m pc ls st) := by
  subst hstk
  obtain ⟨m1, m2, m3, m4, m5⟩ := mf
  refine va_calll (va_runV (As := As) (rest := rest) ⟨X.1, X.2.1, X.2.2.1, X.2.2.2.1, X.2.2.2.2.1⟩ (hc H.size) ⟨kB X m3 m4 hlink m5 hR, X.2.2.2.2.1 _ m1, X.2.2.2.2.1 _ m2⟩ (kPreV X hM (by decide) (dE_desk G _) (show dkCl[5]? = some _ from rfl) hqc) rfl rfl hl rfl (lv_room hst) hdg hcs) hS (fun q _ h => kFree hS q h) (kFree hS) (fun r1 u t H1 locs1 ht hvm hw hB _ _ hS1 => ?_)
  rw [ht] at hB
  rw [hw]
  exact kk H1 locs1 hB hS1
theorem kSJ (X : dC p s m args c cc nL own G) (hM : dM G nu0 H) (hS : dS G H0 H locs) (hl : ls.size = nL) (hc : cJ l y b nY d G As v) (hlink : Cond.methodLink own index y ∈ allW) (mf : mfS y b nY As.length (some .long)) (hR : d + 1 ≤ R.frames ∧ 8 + (nY + 11) + 40 * d ≤ R.locals) (hcs : cells ≤ R.cells ∧ slots ≤ R.slots) (hstk : st = As.reverse ++ rest) (hst : (rest.map fun v => v.category).sum ≤ 8) (hdg : decode cc pc = .ok (.invokestatic index, 3))
    (kk : ∀ (H1 : Heap) (locs1 : List Loc), dM G nu0 H1 → dS G H0 H1 locs1 → W p l e R s m args below meth c H1 locs1 cells slots Q (F0 m (pc + 3) ls (.long v :: rest))) : W p l e R s m args below meth c H locs cells slots Q (F0 m pc ls st) := by
  subst hstk
  obtain ⟨m1, m3, m4, m5⟩ := mf
  refine va_calll (va_runS (As := As) (rest := rest) ⟨X.1, X.2.1, X.2.2.1, X.2.2.2.1, X.2.2.2.2.1⟩ (hc H.size) ⟨kB X m3 m4 hlink m5 hR, X.2.2.2.2.1 _ m1⟩ (kPreS X hM) rfl rfl hl rfl (lv_room hst) hdg hcs) hS (fun q _ h => kFree hS q h) (kFree hS) (fun r1 u t H1 locs1 ht hvm hw hB _ _ hS1 => ?_)
  rw [ht] at hB
  rw [hw]
  exact kk H1 locs1 hB hS1
theorem rJ (X : dC p s m args c cc nL own G) (hM : dM G nu0 H) (hS : dS G s.heap H locs) (hr : meth.sig.returnType = some .long) (hlk : meth.locks = false) (hdg : decode cc pc = .ok (.lreturn, 1)) : W p l e R s m args below meth c H locs 0 0 (MQ below (va_Ql (fun (x : Int64) (_ : Unit) => x = v) (fun _ t => dM G nu0 t.heap) (dA G s.heap.size)) args s 0 0 (dA G s.heap.size)) (F0 m pc ls [.long v]) :=
  W.lret X.1 X.2.1 hr (fun t ht hW => ⟨⟨v, (), rfl, rfl, by show dM G nu0 t.heap; rw [ht]; exact hM⟩, hS.F ht⟩) hS.2.2 hdg hlk
theorem rD {v : UInt64} (X : dC p s m args c cc nL own G) (hM : dM G nu0 H) (hS : dS G s.heap H locs) (hr : meth.sig.returnType = some .double) (hlk : meth.locks = false) (hdg : decode cc pc = .ok (.dreturn, 1)) : W p l e R s m args below meth c H locs 0 0 (MQ below (va_Qd (fun (x : UInt64) (_ : Unit) => x = v) (fun _ t => dM G nu0 t.heap) (dA G s.heap.size)) args s 0 0 (dA G s.heap.size)) (F0 m pc ls [.double v]) :=
  W.dret X.1 X.2.1 hr (fun t ht hW => ⟨⟨v, (), rfl, rfl, by show dM G nu0 t.heap; rw [ht]; exact hM⟩, hS.F ht⟩) hS.2.2 hdg hlk
end RX2
set_option maxHeartbeats 4000000 in
set_option maxRecDepth 100000 in
theorem v_X5_isValueOfKind {l : Launch} {G : dG} {ν : Mm} {kd v : Int32}  : cI l yX5_isValueOfKind cX5_isValueOfKind 2 (some .boolean) 0 G [.int kd, .int v] ν (fun r ν' => r = (if isVal kd v = true then 1 else 0) ∧ ν' = ν) := by
  refine cI_of (by decide +kernel) (Nat.le_of_ble_eq_true rfl) ?_
  intro p e s m args below meth c ls X hM hret hlk hl
  have hS : dS G s.heap s.heap [] := va_S.rf
  refine lv_iload_n X.1 X.2.1 dX5_isValueOfKind_0 rfl (lv_at hl 0 rfl) ?_
  rcases sw4 kd with rfl | rfl | rfl | rfl | hk
  · refine lv_tableIn (tgt := 32) X.1 X.2.1 dX5_isValueOfKind_1 (by decide) (by decide) rfl (by decide) ?_
    refine lv_iload_n X.1 X.2.1 dX5_isValueOfKind_32 rfl (lv_at hl 1 rfl) ?_
    refine lv_iconst (v := 1) X.1 X.2.1 dX5_isValueOfKind_33 (by decide) ?_
    refine lv_icmp_lt (tgt := 47) X.1 X.2.1 dX5_isValueOfKind_34 (by decide) (fun h34 => ?_) (fun h34 => ?_)
    · refine lv_iconst (v := 0) X.1 X.2.1 dX5_isValueOfKind_47 (by decide) ?_
      exact rZ (r := 0) ⟨(if_neg (by rw [show isVal _ v = false from by simp [isVal, inR_fl h34]]; decide)).symm, rfl⟩ X hM hS hret hlk (by omega) dX5_isValueOfKind_48
    · refine lv_iload_n X.1 X.2.1 dX5_isValueOfKind_37 rfl (lv_at hl 1 rfl) ?_
      refine lv_bipush (v := 100) X.1 X.2.1 dX5_isValueOfKind_38 (by decide) ?_
      refine lv_icmp_gt (tgt := 47) X.1 X.2.1 dX5_isValueOfKind_40 (by decide) (fun h40 => ?_) (fun h40 => ?_)
      · refine lv_iconst (v := 0) X.1 X.2.1 dX5_isValueOfKind_47 (by decide) ?_
        exact rZ (r := 0) ⟨(if_neg (by rw [show isVal _ v = false from by simp [isVal, inR_fh h40]]; decide)).symm, rfl⟩ X hM hS hret hlk (by omega) dX5_isValueOfKind_48
      · refine lv_iconst (v := 1) X.1 X.2.1 dX5_isValueOfKind_43 (by decide) ?_
        refine lv_goto (tgt := 48) X.1 X.2.1 dX5_isValueOfKind_44 (by decide) ?_
        exact rZ (r := 1) ⟨(if_pos (by simp [isVal, inR_t h34 h40])).symm, rfl⟩ X hM hS hret hlk (by omega) dX5_isValueOfKind_48
  · refine lv_tableIn (tgt := 49) X.1 X.2.1 dX5_isValueOfKind_1 (by decide) (by decide) rfl (by decide) ?_
    refine lv_iload_n X.1 X.2.1 dX5_isValueOfKind_49 rfl (lv_at hl 1 rfl) ?_
    refine lv_iconst (v := 1) X.1 X.2.1 dX5_isValueOfKind_50 (by decide) ?_
    refine lv_icmp_lt (tgt := 64) X.1 X.2.1 dX5_isValueOfKind_51 (by decide) (fun h51 => ?_) (fun h51 => ?_)
    · refine lv_iconst (v := 0) X.1 X.2.1 dX5_isValueOfKind_64 (by decide) ?_
      exact rZ (r := 0) ⟨(if_neg (by rw [show isVal _ v = false from by simp [isVal, inR_fl h51]]; decide)).symm, rfl⟩ X hM hS hret hlk (by omega) dX5_isValueOfKind_65
    · refine lv_iload_n X.1 X.2.1 dX5_isValueOfKind_54 rfl (lv_at hl 1 rfl) ?_
      refine lv_ldc (v := 100000) X.1 X.2.1 X.2.2.2.1 (X.2.2.2.2.1 _ kl_X5_248) dX5_isValueOfKind_55 ?_
      refine lv_icmp_gt (tgt := 64) X.1 X.2.1 dX5_isValueOfKind_57 (by decide) (fun h57 => ?_) (fun h57 => ?_)
      · refine lv_iconst (v := 0) X.1 X.2.1 dX5_isValueOfKind_64 (by decide) ?_
        exact rZ (r := 0) ⟨(if_neg (by rw [show isVal _ v = false from by simp [isVal, inR_fh h57]]; decide)).symm, rfl⟩ X hM hS hret hlk (by omega) dX5_isValueOfKind_65
      · refine lv_iconst (v := 1) X.1 X.2.1 dX5_isValueOfKind_60 (by decide) ?_
        refine lv_goto (tgt := 65) X.1 X.2.1 dX5_isValueOfKind_61 (by decide) ?_
        exact rZ (r := 1) ⟨(if_pos (by simp [isVal, inR_t h51 h57])).symm, rfl⟩ X hM hS hret hlk (by omega) dX5_isValueOfKind_65
  · refine lv_tableIn (tgt := 66) X.1 X.2.1 dX5_isValueOfKind_1 (by decide) (by decide) rfl (by decide) ?_
    refine lv_iload_n X.1 X.2.1 dX5_isValueOfKind_66 rfl (lv_at hl 1 rfl) ?_
    refine lv_iconst (v := 2) X.1 X.2.1 dX5_isValueOfKind_67 (by decide) ?_
    refine lv_icmp_lt (tgt := 81) X.1 X.2.1 dX5_isValueOfKind_68 (by decide) (fun h68 => ?_) (fun h68 => ?_)
    · refine lv_iconst (v := 0) X.1 X.2.1 dX5_isValueOfKind_81 (by decide) ?_
      exact rZ (r := 0) ⟨(if_neg (by rw [show isVal _ v = false from by simp [isVal, inR_fl h68]]; decide)).symm, rfl⟩ X hM hS hret hlk (by omega) dX5_isValueOfKind_82
    · refine lv_iload_n X.1 X.2.1 dX5_isValueOfKind_71 rfl (lv_at hl 1 rfl) ?_
      refine lv_bipush (v := 9) X.1 X.2.1 dX5_isValueOfKind_72 (by decide) ?_
      refine lv_icmp_gt (tgt := 81) X.1 X.2.1 dX5_isValueOfKind_74 (by decide) (fun h74 => ?_) (fun h74 => ?_)
      · refine lv_iconst (v := 0) X.1 X.2.1 dX5_isValueOfKind_81 (by decide) ?_
        exact rZ (r := 0) ⟨(if_neg (by rw [show isVal _ v = false from by simp [isVal, inR_fh h74]]; decide)).symm, rfl⟩ X hM hS hret hlk (by omega) dX5_isValueOfKind_82
      · refine lv_iconst (v := 1) X.1 X.2.1 dX5_isValueOfKind_77 (by decide) ?_
        refine lv_goto (tgt := 82) X.1 X.2.1 dX5_isValueOfKind_78 (by decide) ?_
        exact rZ (r := 1) ⟨(if_pos (by simp [isVal, inR_t h68 h74])).symm, rfl⟩ X hM hS hret hlk (by omega) dX5_isValueOfKind_82
  · refine lv_tableIn (tgt := 83) X.1 X.2.1 dX5_isValueOfKind_1 (by decide) (by decide) rfl (by decide) ?_
    refine lv_iload_n X.1 X.2.1 dX5_isValueOfKind_83 rfl (lv_at hl 1 rfl) ?_
    refine lv_if_ne (tgt := 91) X.1 X.2.1 dX5_isValueOfKind_84 (by decide) (fun h84 => ?_) (fun h84 => ?_)
    · refine lv_iconst (v := 0) X.1 X.2.1 dX5_isValueOfKind_91 (by decide) ?_
      exact rZ (r := 0) ⟨(if_neg (by rw [show isVal _ v = false from by simp [isVal, h84]]; decide)).symm, rfl⟩ X hM hS hret hlk (by omega) dX5_isValueOfKind_92
    · refine lv_iconst (v := 1) X.1 X.2.1 dX5_isValueOfKind_87 (by decide) ?_
      refine lv_goto (tgt := 92) X.1 X.2.1 dX5_isValueOfKind_88 (by decide) ?_
      exact rZ (r := 1) ⟨(if_pos (by simp [isVal, h84])).symm, rfl⟩ X hM hS hret hlk (by omega) dX5_isValueOfKind_92
  · refine lv_tableOut (tgt := 93) X.1 X.2.1 dX5_isValueOfKind_1 hk (by decide) ?_
    refine lv_iconst (v := 0) X.1 X.2.1 dX5_isValueOfKind_93 (by decide) ?_
    exact rZ (r := 0) ⟨(if_neg (by rw [show isVal _ v = false from isVal_out hk]; decide)).symm, rfl⟩ X hM hS hret hlk (by omega) dX5_isValueOfKind_94

set_option maxHeartbeats 4000000 in
set_option maxRecDepth 100000 in
theorem x_X5_addCoupon1 {l : Launch} (hlt : l.stackTraces = false) {G : dG} {a b c1 c2 c3 : Int32} (hv : isVal a b = false) : cXI l yX5_addCoupon cX5_addCoupon 7 (some .int) 1 G [.ref (ra G 0), .int a, .int b, .int c1, .int c2, .int c3] nIAE := by
  refine cXI_of (by decide +kernel) rfl (Nat.le_of_ble_eq_true rfl) ?_
  intro p e s m args below meth c ls B hM hl
  have X := B.1
  have hS : dS G s.heap s.heap [] := va_S.rf
  refine lv_iload_n X.1 X.2.1 dX5_addCoupon_0 rfl (lv_at hl 1 rfl) ?_
  refine lv_iload_n X.1 X.2.1 dX5_addCoupon_1 rfl (lv_at hl 2 rfl) ?_
  refine kSI (As := [_, _]) X hM hS hl.1 v_X5_isValueOfKind kl_X5_100 mf_X5_isValueOfKind ⟨Nat.le_of_ble_eq_true rfl, Nat.le_of_ble_eq_true rfl⟩ ⟨Nat.zero_le _, Nat.zero_le _⟩ rfl (Nat.le_of_ble_eq_true rfl) dX5_addCoupon_2 (fun r2 ν2 H locs hp2 hM hS => ?_)
  obtain ⟨e2, rfl⟩ := hp2
  rw [if_neg (by rw [hv]; decide)] at e2
  subst e2
  refine r_as (b := 0) rfl ?_
  refine lv_if_ne (tgt := 18) X.1 X.2.1 dX5_addCoupon_5 (by decide) (fun h5 => absurd (by decide) h5) (fun h5 => ?_)
  exact x_throw (text := "no kind, or no value for this kind") hlt B hM hS hl.1 xOK_IAE (by decide) ⟨Nat.le_of_ble_eq_true rfl, Nat.le_of_ble_eq_true rfl, Nat.le_of_ble_eq_true rfl, Nat.le_of_ble_eq_true rfl⟩ dX5_addCoupon_8 dX5_addCoupon_11 dX5_addCoupon_12 dX5_addCoupon_14 dX5_addCoupon_17

set_option maxHeartbeats 4000000 in
set_option maxRecDepth 100000 in
theorem x_X5_addCoupon2 {l : Launch} (hlt : l.stackTraces = false) {G : dG} {a b c1 c2 c3 : Int32} (hv : isVal a b = true) (h1 : inR c1 1 255 = false) : cXI l yX5_addCoupon cX5_addCoupon 7 (some .int) 1 G [.ref (ra G 0), .int a, .int b, .int c1, .int c2, .int c3] nIAE := by
  refine cXI_of (by decide +kernel) rfl (Nat.le_of_ble_eq_true rfl) ?_
  intro p e s m args below meth c ls B hM hl
  have X := B.1
  have hS : dS G s.heap s.heap [] := va_S.rf
  refine lv_iload_n X.1 X.2.1 dX5_addCoupon_0 rfl (lv_at hl 1 rfl) ?_
  refine lv_iload_n X.1 X.2.1 dX5_addCoupon_1 rfl (lv_at hl 2 rfl) ?_
  refine kSI (As := [_, _]) X hM hS hl.1 v_X5_isValueOfKind kl_X5_100 mf_X5_isValueOfKind ⟨Nat.le_of_ble_eq_true rfl, Nat.le_of_ble_eq_true rfl⟩ ⟨Nat.zero_le _, Nat.zero_le _⟩ rfl (Nat.le_of_ble_eq_true rfl) dX5_addCoupon_2 (fun r2 ν2 H locs hp2 hM hS => ?_)
  obtain ⟨e2, rfl⟩ := hp2
  rw [if_pos hv] at e2
  subst e2
  refine r_as (b := 1) rfl ?_
  refine lv_if_ne (tgt := 18) X.1 X.2.1 dX5_addCoupon_5 (by decide) (fun h5 => ?_) (fun h5 => absurd h5 (by decide))
  refine lv_iload_n X.1 X.2.1 dX5_addCoupon_18 rfl (lv_at hl 3 rfl) ?_
  refine lv_iconst (v := 1) X.1 X.2.1 dX5_addCoupon_19 (by decide) ?_
  refine lv_icmp_lt (tgt := 30) X.1 X.2.1 dX5_addCoupon_20 (by decide) (fun h20 => ?_) (fun h20 => ?_)
  · exact x_throw (text := "a set of categories is 1 to 255") hlt B hM hS hl.1 xOK_IAE (by decide) ⟨Nat.le_of_ble_eq_true rfl, Nat.le_of_ble_eq_true rfl, Nat.le_of_ble_eq_true rfl, Nat.le_of_ble_eq_true rfl⟩ dX5_addCoupon_30 dX5_addCoupon_33 dX5_addCoupon_34 dX5_addCoupon_36 dX5_addCoupon_39
  · refine lv_iload_n X.1 X.2.1 dX5_addCoupon_23 rfl (lv_at hl 3 rfl) ?_
    refine lv_sipush (v := 255) X.1 X.2.1 dX5_addCoupon_24 (by decide) ?_
    refine lv_icmp_le (tgt := 40) X.1 X.2.1 dX5_addCoupon_27 (by decide) (fun h27 => (inR_no h1 h20 (inR_le h27)).elim) (fun h27 => ?_)
    exact x_throw (text := "a set of categories is 1 to 255") hlt B hM hS hl.1 xOK_IAE (by decide) ⟨Nat.le_of_ble_eq_true rfl, Nat.le_of_ble_eq_true rfl, Nat.le_of_ble_eq_true rfl, Nat.le_of_ble_eq_true rfl⟩ dX5_addCoupon_30 dX5_addCoupon_33 dX5_addCoupon_34 dX5_addCoupon_36 dX5_addCoupon_39

set_option maxHeartbeats 4000000 in
set_option maxRecDepth 100000 in
theorem x_X5_addCoupon3 {l : Launch} (hlt : l.stackTraces = false) {G : dG} {a b c1 c2 c3 : Int32} (hv : isVal a b = true) (h1 : inR c1 1 255 = true) (h2 : inR c2 0 1000000 = false) : cXI l yX5_addCoupon cX5_addCoupon 7 (some .int) 1 G [.ref (ra G 0), .int a, .int b, .int c1, .int c2, .int c3] nIAE := by
  refine cXI_of (by decide +kernel) rfl (Nat.le_of_ble_eq_true rfl) ?_
  intro p e s m args below meth c ls B hM hl
  have X := B.1
  have hS : dS G s.heap s.heap [] := va_S.rf
  refine lv_iload_n X.1 X.2.1 dX5_addCoupon_0 rfl (lv_at hl 1 rfl) ?_
  refine lv_iload_n X.1 X.2.1 dX5_addCoupon_1 rfl (lv_at hl 2 rfl) ?_
  refine kSI (As := [_, _]) X hM hS hl.1 v_X5_isValueOfKind kl_X5_100 mf_X5_isValueOfKind ⟨Nat.le_of_ble_eq_true rfl, Nat.le_of_ble_eq_true rfl⟩ ⟨Nat.zero_le _, Nat.zero_le _⟩ rfl (Nat.le_of_ble_eq_true rfl) dX5_addCoupon_2 (fun r2 ν2 H locs hp2 hM hS => ?_)
  obtain ⟨e2, rfl⟩ := hp2
  rw [if_pos hv] at e2
  subst e2
  refine r_as (b := 1) rfl ?_
  refine lv_if_ne (tgt := 18) X.1 X.2.1 dX5_addCoupon_5 (by decide) (fun h5 => ?_) (fun h5 => absurd h5 (by decide))
  refine lv_iload_n X.1 X.2.1 dX5_addCoupon_18 rfl (lv_at hl 3 rfl) ?_
  refine lv_iconst (v := 1) X.1 X.2.1 dX5_addCoupon_19 (by decide) ?_
  refine lv_icmp_lt (tgt := 30) X.1 X.2.1 dX5_addCoupon_20 (by decide) (fun h20 => absurd h20 (inR_lo h1)) (fun h20 => ?_)
  refine lv_iload_n X.1 X.2.1 dX5_addCoupon_23 rfl (lv_at hl 3 rfl) ?_
  refine lv_sipush (v := 255) X.1 X.2.1 dX5_addCoupon_24 (by decide) ?_
  refine lv_icmp_le (tgt := 40) X.1 X.2.1 dX5_addCoupon_27 (by decide) (fun h27 => ?_) (fun h27 => absurd (inR_hi h1) h27)
  refine lv_iload X.1 X.2.1 dX5_addCoupon_40 (lv_at hl 4 rfl) ?_
  refine lv_if_lt (tgt := 52) X.1 X.2.1 dX5_addCoupon_42 (by decide) (fun h42 => ?_) (fun h42 => ?_)
  · exact x_throw (text := "a minimum is 0 to 1000000") hlt B hM hS hl.1 xOK_IAE (by decide) ⟨Nat.le_of_ble_eq_true rfl, Nat.le_of_ble_eq_true rfl, Nat.le_of_ble_eq_true rfl, Nat.le_of_ble_eq_true rfl⟩ dX5_addCoupon_52 dX5_addCoupon_55 dX5_addCoupon_56 dX5_addCoupon_58 dX5_addCoupon_61
  · refine lv_iload X.1 X.2.1 dX5_addCoupon_45 (lv_at hl 4 rfl) ?_
    refine lv_ldc (v := 1000000) X.1 X.2.1 X.2.2.2.1 (X.2.2.2.2.1 _ kl_X5_55) dX5_addCoupon_47 ?_
    refine lv_icmp_le (tgt := 62) X.1 X.2.1 dX5_addCoupon_49 (by decide) (fun h49 => (inR_no h2 h42 (inR_le h49)).elim) (fun h49 => ?_)
    exact x_throw (text := "a minimum is 0 to 1000000") hlt B hM hS hl.1 xOK_IAE (by decide) ⟨Nat.le_of_ble_eq_true rfl, Nat.le_of_ble_eq_true rfl, Nat.le_of_ble_eq_true rfl, Nat.le_of_ble_eq_true rfl⟩ dX5_addCoupon_52 dX5_addCoupon_55 dX5_addCoupon_56 dX5_addCoupon_58 dX5_addCoupon_61

set_option maxHeartbeats 4000000 in
set_option maxRecDepth 100000 in
theorem x_X5_addCoupon4 {l : Launch} (hlt : l.stackTraces = false) {G : dG} {a b c1 c2 c3 : Int32} (hv : isVal a b = true) (h1 : inR c1 1 255 = true) (h2 : inR c2 0 1000000 = true) (h3 : inR c3 0 3 = false) : cXI l yX5_addCoupon cX5_addCoupon 7 (some .int) 1 G [.ref (ra G 0), .int a, .int b, .int c1, .int c2, .int c3] nIAE := by
  refine cXI_of (by decide +kernel) rfl (Nat.le_of_ble_eq_true rfl) ?_
  intro p e s m args below meth c ls B hM hl
  have X := B.1
  have hS : dS G s.heap s.heap [] := va_S.rf
  refine lv_iload_n X.1 X.2.1 dX5_addCoupon_0 rfl (lv_at hl 1 rfl) ?_
  refine lv_iload_n X.1 X.2.1 dX5_addCoupon_1 rfl (lv_at hl 2 rfl) ?_
  refine kSI (As := [_, _]) X hM hS hl.1 v_X5_isValueOfKind kl_X5_100 mf_X5_isValueOfKind ⟨Nat.le_of_ble_eq_true rfl, Nat.le_of_ble_eq_true rfl⟩ ⟨Nat.zero_le _, Nat.zero_le _⟩ rfl (Nat.le_of_ble_eq_true rfl) dX5_addCoupon_2 (fun r2 ν2 H locs hp2 hM hS => ?_)
  obtain ⟨e2, rfl⟩ := hp2
  rw [if_pos hv] at e2
  subst e2
  refine r_as (b := 1) rfl ?_
  refine lv_if_ne (tgt := 18) X.1 X.2.1 dX5_addCoupon_5 (by decide) (fun h5 => ?_) (fun h5 => absurd h5 (by decide))
  refine lv_iload_n X.1 X.2.1 dX5_addCoupon_18 rfl (lv_at hl 3 rfl) ?_
  refine lv_iconst (v := 1) X.1 X.2.1 dX5_addCoupon_19 (by decide) ?_
  refine lv_icmp_lt (tgt := 30) X.1 X.2.1 dX5_addCoupon_20 (by decide) (fun h20 => absurd h20 (inR_lo h1)) (fun h20 => ?_)
  refine lv_iload_n X.1 X.2.1 dX5_addCoupon_23 rfl (lv_at hl 3 rfl) ?_
  refine lv_sipush (v := 255) X.1 X.2.1 dX5_addCoupon_24 (by decide) ?_
  refine lv_icmp_le (tgt := 40) X.1 X.2.1 dX5_addCoupon_27 (by decide) (fun h27 => ?_) (fun h27 => absurd (inR_hi h1) h27)
  refine lv_iload X.1 X.2.1 dX5_addCoupon_40 (lv_at hl 4 rfl) ?_
  refine lv_if_lt (tgt := 52) X.1 X.2.1 dX5_addCoupon_42 (by decide) (fun h42 => absurd h42 (inR_lo h2)) (fun h42 => ?_)
  refine lv_iload X.1 X.2.1 dX5_addCoupon_45 (lv_at hl 4 rfl) ?_
  refine lv_ldc (v := 1000000) X.1 X.2.1 X.2.2.2.1 (X.2.2.2.2.1 _ kl_X5_55) dX5_addCoupon_47 ?_
  refine lv_icmp_le (tgt := 62) X.1 X.2.1 dX5_addCoupon_49 (by decide) (fun h49 => ?_) (fun h49 => absurd (inR_hi h2) h49)
  refine lv_iload X.1 X.2.1 dX5_addCoupon_62 (lv_at hl 5 rfl) ?_
  refine lv_if_lt (tgt := 73) X.1 X.2.1 dX5_addCoupon_64 (by decide) (fun h64 => ?_) (fun h64 => ?_)
  · exact x_throw (text := "a group is 0 to 3") hlt B hM hS hl.1 xOK_IAE (by decide) ⟨Nat.le_of_ble_eq_true rfl, Nat.le_of_ble_eq_true rfl, Nat.le_of_ble_eq_true rfl, Nat.le_of_ble_eq_true rfl⟩ dX5_addCoupon_73 dX5_addCoupon_76 dX5_addCoupon_77 dX5_addCoupon_79 dX5_addCoupon_82
  · refine lv_iload X.1 X.2.1 dX5_addCoupon_67 (lv_at hl 5 rfl) ?_
    refine lv_iconst (v := 3) X.1 X.2.1 dX5_addCoupon_69 (by decide) ?_
    refine lv_icmp_le (tgt := 83) X.1 X.2.1 dX5_addCoupon_70 (by decide) (fun h70 => (inR_no h3 h64 (inR_le h70)).elim) (fun h70 => ?_)
    exact x_throw (text := "a group is 0 to 3") hlt B hM hS hl.1 xOK_IAE (by decide) ⟨Nat.le_of_ble_eq_true rfl, Nat.le_of_ble_eq_true rfl, Nat.le_of_ble_eq_true rfl, Nat.le_of_ble_eq_true rfl⟩ dX5_addCoupon_73 dX5_addCoupon_76 dX5_addCoupon_77 dX5_addCoupon_79 dX5_addCoupon_82

set_option maxHeartbeats 4000000 in
set_option maxRecDepth 100000 in
theorem c_X5_orderCount {l : Launch} {G : dG}   : cI l yX5_orderCount cX5_orderCount 1 (some .int) 0 G [.ref (ra G 0)] nu0 (fun r ν' => r = 0 ∧ ν' = nu0) := by
  refine cI_of (by decide +kernel) (Nat.le_of_ble_eq_true rfl) ?_
  intro p e s m args below meth c ls X hM hret hlk hl
  have hS : dS G s.heap s.heap [] := va_S.rf
  refine lv_aload_n X.1 X.2.1 dX5_orderCount_0 rfl (lv_at hl 0 rfl) ?_
  refine m_get (v := .int 0) (ci := 5) (C := RX5) (T := TX5) (N := 10) X hM inA5 (by decide) (dE_desk G _) rfl 7 (by decide) kl_X5_49 rfl rfl dX5_orderCount_1 ?_
  exact rI (r := 0) ⟨rfl, rfl⟩ X hM hS hret hlk dX5_orderCount_4

set_option maxHeartbeats 4000000 in
set_option maxRecDepth 100000 in
theorem c_X5_mix {l : Launch} {G : dG} {a : Int64} {x : Int32} : cJ l yX5_mix cX5_mix 3 0 G [.long a, .int x] (a * 31 + x.toInt64) := by
  refine cJ_of (by decide +kernel) (Nat.le_of_ble_eq_true rfl) ?_
  intro p e s m args below meth c ls X hM hret hlk hl
  have hS : dS G s.heap s.heap [] := va_S.rf
  refine lv_lload_n X.1 X.2.1 dX5_mix_0 rfl (lv_at hl 0 rfl) ?_
  refine lv_ldc2 (v := 31) X.1 X.2.1 X.2.2.2.1 (X.2.2.2.2.1 _ kl_X5_298) dX5_mix_1 ?_
  refine lv_lmul X.1 X.2.1 dX5_mix_4 ?_
  refine lv_iload_n X.1 X.2.1 dX5_mix_5 rfl (lv_at hl 1 rfl) ?_
  refine lv_i2l X.1 X.2.1 dX5_mix_6 rfl ?_
  refine lv_ladd X.1 X.2.1 dX5_mix_7 ?_
  exact rJ X hM hS hret hlk dX5_mix_8

set_option maxHeartbeats 4000000 in
set_option maxRecDepth 100000 in
theorem c_X5_digestArticles {l : Launch} {G : dG} {a : Int64} : cJ l yX5_digestArticles cX5_digestArticles 6 1 G [.ref (ra G 0), .long a] (a * 31 + (0 : Int32).toInt64) := by
  refine cJ_of (by decide +kernel) (Nat.le_of_ble_eq_true rfl) ?_
  intro p e s m args below meth c ls X hM hret hlk hl
  have hS : dS G s.heap s.heap [] := va_S.rf
  refine lv_lload_n X.1 X.2.1 dX5_digestArticles_0 rfl (lv_at hl 1 rfl) ?_
  refine lv_aload_n X.1 X.2.1 dX5_digestArticles_1 rfl (lv_at hl 0 rfl) ?_
  refine m_get (v := .int 0) (ci := 5) (C := RX5) (T := TX5) (N := 10) X hM inA5 (by decide) (dE_desk G _) rfl 5 (by decide) kl_X5_42 rfl rfl dX5_digestArticles_2 ?_
  refine kSJ (As := [_, _]) X hM hS hl.1 c_X5_mix kl_X5_226 mf_X5_mix ⟨Nat.le_of_ble_eq_true rfl, Nat.le_of_ble_eq_true rfl⟩ ⟨Nat.zero_le _, Nat.zero_le _⟩ rfl (Nat.le_of_ble_eq_true rfl) dX5_digestArticles_5 (fun H locs hM hS => ?_)
  refine lv_lstore_n X.1 X.2.1 dX5_digestArticles_8 rfl hl (by decide) rfl (fun ls hl => ?_)
  replace hl : lv_has ls 6 [(3, _), (0, _), (1, _)] := hl
  refine lv_iconst (v := 0) X.1 X.2.1 dX5_digestArticles_9 (by decide) ?_
  refine lv_istore X.1 X.2.1 dX5_digestArticles_10 hl (by decide) rfl (fun ls hl => ?_)
  replace hl : lv_has ls 6 [(5, _), (3, _), (0, _), (1, _)] := hl
  refine lv_iload X.1 X.2.1 dX5_digestArticles_12 (lv_at hl 0 rfl) ?_
  refine lv_aload_n X.1 X.2.1 dX5_digestArticles_14 rfl (lv_at hl 2 rfl) ?_
  refine m_get (v := .int 0) (ci := 5) (C := RX5) (T := TX5) (N := 10) X hM inA5 (by decide) (dE_desk G _) rfl 5 (by decide) kl_X5_42 rfl rfl dX5_digestArticles_15 ?_
  refine lv_icmp_ge (tgt := 72) X.1 X.2.1 dX5_digestArticles_18 (by decide) (fun h18 => ?_) (fun h18 => absurd (by decide) h18)
  refine lv_lload_n X.1 X.2.1 dX5_digestArticles_72 rfl (lv_at hl 1 rfl) ?_
  exact rJ X hM hS hret hlk dX5_digestArticles_73

set_option maxHeartbeats 4000000 in
set_option maxRecDepth 100000 in
theorem c_X5_digestCoupons {l : Launch} {G : dG} {a : Int64} : cJ l yX5_digestCoupons cX5_digestCoupons 6 1 G [.ref (ra G 0), .long a] (a * 31 + (0 : Int32).toInt64) := by
  refine cJ_of (by decide +kernel) (Nat.le_of_ble_eq_true rfl) ?_
  intro p e s m args below meth c ls X hM hret hlk hl
  have hS : dS G s.heap s.heap [] := va_S.rf
  refine lv_lload_n X.1 X.2.1 dX5_digestCoupons_0 rfl (lv_at hl 1 rfl) ?_
  refine lv_aload_n X.1 X.2.1 dX5_digestCoupons_1 rfl (lv_at hl 0 rfl) ?_
  refine m_get (v := .int 0) (ci := 5) (C := RX5) (T := TX5) (N := 10) X hM inA5 (by decide) (dE_desk G _) rfl 6 (by decide) kl_X5_46 rfl rfl dX5_digestCoupons_2 ?_
  refine kSJ (As := [_, _]) X hM hS hl.1 c_X5_mix kl_X5_226 mf_X5_mix ⟨Nat.le_of_ble_eq_true rfl, Nat.le_of_ble_eq_true rfl⟩ ⟨Nat.zero_le _, Nat.zero_le _⟩ rfl (Nat.le_of_ble_eq_true rfl) dX5_digestCoupons_5 (fun H locs hM hS => ?_)
  refine lv_lstore_n X.1 X.2.1 dX5_digestCoupons_8 rfl hl (by decide) rfl (fun ls hl => ?_)
  replace hl : lv_has ls 6 [(3, _), (0, _), (1, _)] := hl
  refine lv_iconst (v := 0) X.1 X.2.1 dX5_digestCoupons_9 (by decide) ?_
  refine lv_istore X.1 X.2.1 dX5_digestCoupons_10 hl (by decide) rfl (fun ls hl => ?_)
  replace hl : lv_has ls 6 [(5, _), (3, _), (0, _), (1, _)] := hl
  refine lv_iload X.1 X.2.1 dX5_digestCoupons_12 (lv_at hl 0 rfl) ?_
  refine lv_aload_n X.1 X.2.1 dX5_digestCoupons_14 rfl (lv_at hl 2 rfl) ?_
  refine m_get (v := .int 0) (ci := 5) (C := RX5) (T := TX5) (N := 10) X hM inA5 (by decide) (dE_desk G _) rfl 6 (by decide) kl_X5_46 rfl rfl dX5_digestCoupons_15 ?_
  refine lv_icmp_ge (tgt := 117) X.1 X.2.1 dX5_digestCoupons_18 (by decide) (fun h18 => ?_) (fun h18 => absurd (by decide) h18)
  refine lv_lload_n X.1 X.2.1 dX5_digestCoupons_117 rfl (lv_at hl 1 rfl) ?_
  exact rJ X hM hS hret hlk dX5_digestCoupons_118

set_option maxHeartbeats 4000000 in
set_option maxRecDepth 100000 in
theorem c_X5_digestOrders {l : Launch} {G : dG} {a : Int64} : cJ l yX5_digestOrders cX5_digestOrders 7 1 G [.ref (ra G 0), .long a] (a * 31 + (0 : Int32).toInt64) := by
  refine cJ_of (by decide +kernel) (Nat.le_of_ble_eq_true rfl) ?_
  intro p e s m args below meth c ls X hM hret hlk hl
  have hS : dS G s.heap s.heap [] := va_S.rf
  refine lv_lload_n X.1 X.2.1 dX5_digestOrders_0 rfl (lv_at hl 1 rfl) ?_
  refine lv_aload_n X.1 X.2.1 dX5_digestOrders_1 rfl (lv_at hl 0 rfl) ?_
  refine m_get (v := .int 0) (ci := 5) (C := RX5) (T := TX5) (N := 10) X hM inA5 (by decide) (dE_desk G _) rfl 7 (by decide) kl_X5_49 rfl rfl dX5_digestOrders_2 ?_
  refine kSJ (As := [_, _]) X hM hS hl.1 c_X5_mix kl_X5_226 mf_X5_mix ⟨Nat.le_of_ble_eq_true rfl, Nat.le_of_ble_eq_true rfl⟩ ⟨Nat.zero_le _, Nat.zero_le _⟩ rfl (Nat.le_of_ble_eq_true rfl) dX5_digestOrders_5 (fun H locs hM hS => ?_)
  refine lv_lstore_n X.1 X.2.1 dX5_digestOrders_8 rfl hl (by decide) rfl (fun ls hl => ?_)
  replace hl : lv_has ls 7 [(3, _), (0, _), (1, _)] := hl
  refine lv_iconst (v := 0) X.1 X.2.1 dX5_digestOrders_9 (by decide) ?_
  refine lv_istore X.1 X.2.1 dX5_digestOrders_10 hl (by decide) rfl (fun ls hl => ?_)
  replace hl : lv_has ls 7 [(5, _), (3, _), (0, _), (1, _)] := hl
  refine lv_iload X.1 X.2.1 dX5_digestOrders_12 (lv_at hl 0 rfl) ?_
  refine lv_aload_n X.1 X.2.1 dX5_digestOrders_14 rfl (lv_at hl 2 rfl) ?_
  refine m_get (v := .int 0) (ci := 5) (C := RX5) (T := TX5) (N := 10) X hM inA5 (by decide) (dE_desk G _) rfl 7 (by decide) kl_X5_49 rfl rfl dX5_digestOrders_15 ?_
  refine lv_icmp_ge (tgt := 59) X.1 X.2.1 dX5_digestOrders_18 (by decide) (fun h18 => ?_) (fun h18 => absurd (by decide) h18)
  refine lv_lload_n X.1 X.2.1 dX5_digestOrders_59 rfl (lv_at hl 1 rfl) ?_
  exact rJ X hM hS hret hlk dX5_digestOrders_60

set_option maxHeartbeats 4000000 in
set_option maxRecDepth 100000 in
theorem c_X5_digest {l : Launch} {G : dG}  : cJ l yX5_digest cX5_digest 3 2 G [.ref (ra G 0)] (((((199 * 31 + (0 : Int32).toInt64) * 31 + (0 : Int32).toInt64) * 31 + (1000000 : Int32).toInt64) * 31 + (0 : Int32).toInt64) * 31 + (0 : Int32).toInt64) := by
  refine cJ_of (by decide +kernel) (Nat.le_of_ble_eq_true rfl) ?_
  intro p e s m args below meth c ls X hM hret hlk hl
  have hS : dS G s.heap s.heap [] := va_S.rf
  refine lv_aload_n X.1 X.2.1 dX5_digest_0 rfl (lv_at hl 0 rfl) ?_
  refine lv_ldc2 (v := 199) X.1 X.2.1 X.2.2.2.1 (X.2.2.2.2.1 _ kl_X5_220) dX5_digest_1 ?_
  refine kVJ (As := [_]) X hM hS hl.1 c_X5_digestArticles rfl kl_X5_222 mf_X5_digestArticles ⟨Nat.le_of_ble_eq_true rfl, Nat.le_of_ble_eq_true rfl⟩ ⟨Nat.zero_le _, Nat.zero_le _⟩ rfl (Nat.le_of_ble_eq_true rfl) dX5_digest_4 (fun H locs hM hS => ?_)
  refine lv_lstore_n X.1 X.2.1 dX5_digest_7 rfl hl (by decide) rfl (fun ls hl => ?_)
  replace hl : lv_has ls 3 [(1, _), (0, _)] := hl
  refine lv_lload_n X.1 X.2.1 dX5_digest_8 rfl (lv_at hl 0 rfl) ?_
  refine lv_aload_n X.1 X.2.1 dX5_digest_9 rfl (lv_at hl 1 rfl) ?_
  refine m_get (v := .int 0) (ci := 5) (C := RX5) (T := TX5) (N := 10) X hM inA5 (by decide) (dE_desk G _) rfl 8 (by decide) kl_X5_52 rfl rfl dX5_digest_10 ?_
  refine kSJ (As := [_, _]) X hM hS hl.1 c_X5_mix kl_X5_226 mf_X5_mix ⟨Nat.le_of_ble_eq_true rfl, Nat.le_of_ble_eq_true rfl⟩ ⟨Nat.zero_le _, Nat.zero_le _⟩ rfl (Nat.le_of_ble_eq_true rfl) dX5_digest_13 (fun H locs hM hS => ?_)
  refine lv_aload_n X.1 X.2.1 dX5_digest_16 rfl (lv_at hl 1 rfl) ?_
  refine m_get (v := .int 1000000) (ci := 5) (C := RX5) (T := TX5) (N := 10) X hM inA5 (by decide) (dE_desk G _) rfl 9 (by decide) kl_X5_56 rfl rfl dX5_digest_17 ?_
  refine kSJ (As := [_, _]) X hM hS hl.1 c_X5_mix kl_X5_226 mf_X5_mix ⟨Nat.le_of_ble_eq_true rfl, Nat.le_of_ble_eq_true rfl⟩ ⟨Nat.zero_le _, Nat.zero_le _⟩ rfl (Nat.le_of_ble_eq_true rfl) dX5_digest_20 (fun H locs hM hS => ?_)
  refine lv_lstore_n X.1 X.2.1 dX5_digest_23 rfl hl (by decide) rfl (fun ls hl => ?_)
  replace hl : lv_has ls 3 [(1, _), (0, _)] := hl
  refine lv_aload_n X.1 X.2.1 dX5_digest_24 rfl (lv_at hl 1 rfl) ?_
  refine lv_lload_n X.1 X.2.1 dX5_digest_25 rfl (lv_at hl 0 rfl) ?_
  refine kVJ (As := [_]) X hM hS hl.1 c_X5_digestCoupons rfl kl_X5_230 mf_X5_digestCoupons ⟨Nat.le_of_ble_eq_true rfl, Nat.le_of_ble_eq_true rfl⟩ ⟨Nat.zero_le _, Nat.zero_le _⟩ rfl (Nat.le_of_ble_eq_true rfl) dX5_digest_26 (fun H locs hM hS => ?_)
  refine lv_lstore_n X.1 X.2.1 dX5_digest_29 rfl hl (by decide) rfl (fun ls hl => ?_)
  replace hl : lv_has ls 3 [(1, _), (0, _)] := hl
  refine lv_aload_n X.1 X.2.1 dX5_digest_30 rfl (lv_at hl 1 rfl) ?_
  refine lv_lload_n X.1 X.2.1 dX5_digest_31 rfl (lv_at hl 0 rfl) ?_
  refine kVJ (As := [_]) X hM hS hl.1 c_X5_digestOrders rfl kl_X5_233 mf_X5_digestOrders ⟨Nat.le_of_ble_eq_true rfl, Nat.le_of_ble_eq_true rfl⟩ ⟨Nat.zero_le _, Nat.zero_le _⟩ rfl (Nat.le_of_ble_eq_true rfl) dX5_digest_32 (fun H locs hM hS => ?_)
  exact rJ X hM hS hret hlk dX5_digest_35

set_option maxHeartbeats 4000000 in
set_option maxRecDepth 100000 in
theorem c_X5_level {l : Launch} {G : dG}  : cD l yX5_level cX5_level 4 0 G [.ref (ra G 0)] (FP.dconst1) := by
  refine cD_of (by decide +kernel) (Nat.le_of_ble_eq_true rfl) ?_
  intro p e s m args below meth c ls X hM hret hlk hl
  have hS : dS G s.heap s.heap [] := va_S.rf
  refine lv_iconst (v := 0) X.1 X.2.1 dX5_level_0 (by decide) ?_
  refine lv_istore_n X.1 X.2.1 dX5_level_1 rfl hl (by decide) rfl (fun ls hl => ?_)
  replace hl : lv_has ls 4 [(1, _), (0, _)] := hl
  refine lv_iconst (v := 0) X.1 X.2.1 dX5_level_2 (by decide) ?_
  refine lv_istore_n X.1 X.2.1 dX5_level_3 rfl hl (by decide) rfl (fun ls hl => ?_)
  replace hl : lv_has ls 4 [(2, _), (1, _), (0, _)] := hl
  refine lv_iconst (v := 0) X.1 X.2.1 dX5_level_4 (by decide) ?_
  refine lv_istore_n X.1 X.2.1 dX5_level_5 rfl hl (by decide) rfl (fun ls hl => ?_)
  replace hl : lv_has ls 4 [(3, _), (2, _), (1, _), (0, _)] := hl
  refine lv_iload_n X.1 X.2.1 dX5_level_6 rfl (lv_at hl 0 rfl) ?_
  refine lv_aload_n X.1 X.2.1 dX5_level_7 rfl (lv_at hl 3 rfl) ?_
  refine m_get (v := .int 0) (ci := 5) (C := RX5) (T := TX5) (N := 10) X hM inA5 (by decide) (dE_desk G _) rfl 7 (by decide) kl_X5_49 rfl rfl dX5_level_8 ?_
  refine lv_icmp_ge (tgt := 50) X.1 X.2.1 dX5_level_11 (by decide) (fun h11 => ?_) (fun h11 => absurd (by decide) h11)
  refine lv_iload_n X.1 X.2.1 dX5_level_50 rfl (lv_at hl 1 rfl) ?_
  refine lv_if_ne (tgt := 56) X.1 X.2.1 dX5_level_51 (by decide) (fun h51 => absurd (by decide) h51) (fun h51 => ?_)
  refine lv_dconst1 X.1 X.2.1 dX5_level_54 ?_
  exact rD X hM hS hret hlk dX5_level_55
