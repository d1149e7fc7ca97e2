/-! ===== contracts over the memory, and their use ===== -/
/-- room for d frames -/
def rmD (d : Nat) : Room := { frames := d, cells := 0, slots := 0, locals := 40 * d }
abbrev wsD (y : MethodName) (b : ByteArray) (n : Nat) (ret : Option FieldType) : List Cond := Cond.code y b n ret :: allW
abbrev dPc (G : dG) (sz : Nat) (ν : Mm) (av : List Value) : Array Value → State → Prop := va_Pc av (fun U => U.heap.size = sz ∧ dM G ν U.heap ∧ dK G U)
abbrev dQi (G : dG) (sz : Nat) (P : Nat → Mm → Prop) : Array Value → State → Outcome → State → Prop := va_Qi (fun (x : Int32) (u : Nat × Mm) => x = nI u.1 ∧ P u.1 u.2) (fun u t => dM G u.2 t.heap) (dA G sz)
abbrev dQv (G : dG) (sz : Nat) (P : Mm → Prop) : Array Value → State → Outcome → State → Prop := va_Qv (fun (u : Mm) => P u) (fun u t => dM G u t.heap) (dA G sz)
/-- called with av over ν it answers some r and leaves some memory with P -/
def cI (l : Launch) (y : MethodName) (b : ByteArray) (n : Nat) (ret : Option FieldType) (d : Nat) (G : dG) (av : List Value) (ν : Mm) (P : Nat → Mm → Prop) : Prop :=
  ∀ sz, Met l y (wsD y b n ret) (rmD d) (dPc G sz ν av) (dQi G sz P) 0 0 (dA G sz)
def cV (l : Launch) (y : MethodName) (b : ByteArray) (n : Nat) (d : Nat) (G : dG) (av : List Value) (ν : Mm) (P : Mm → Prop) : Prop :=
  ∀ sz, Met l y (wsD y b n none) (rmD d) (dPc G sz ν av) (dQv G sz P) 0 0 (dA G sz)
theorem cI_of {l : Launch} {y : MethodName} {b : ByteArray} {n : Nat} {ret : Option FieldType} {d : Nat} {G : dG} {av : List Value} {ν : Mm} {P : Nat → Mm → Prop} (hy : plainName y.cls = true) (hn : (lg_sl av).length ≤ n)
    (body : ∀ (p : Program) (e : Env) (s : State) (m : MethodId) (args : Array Value) (below : List Frame) (meth : Method) (c : Code) (ls : Array Slot), dC p s m args c b n y.cls G → dM G ν s.heap → meth.sig.returnType = ret → meth.locks = false → lv_has ls n (lv_args 0 av) →
      W p l e (rmD d) s m args below meth c s.heap [] 0 0 (MQ below (dQi G s.heap.size P) args s 0 0 (dA G s.heap.size)) (F0 m 0 ls [])) : cI l y b n ret d G av ν P := by
  intro sz
  refine Met.ofW (cc := b) (maxL := n) (ret := ret) hy rfl ?_
  intro p e s m args below meth c s₁ B hml hv
  obtain ⟨rfl, hsz, hM, hK⟩ := hv
  subst hsz
  have hts := atoms_spec (ws := wsD y b n ret) B.pre
  have hl := lv_entry av hn
  rw [lg_entry_eq]
  exact body p e s m _ below meth c _ ⟨B.exec, B.bytes, hml, findClass_of_methodNamed B.named, fun w h => hts w (List.mem_cons_of_mem _ h), hK⟩ hM B.returns B.notSynchronized hl
theorem cV_of {l : Launch} {y : MethodName} {b : ByteArray} {n : Nat} {d : Nat} {G : dG} {av : List Value} {ν : Mm} {P : Mm → Prop} (hy : plainName y.cls = true) (hn : (lg_sl av).length ≤ n)
    (body : ∀ (p : Program) (e : Env) (s : State) (m : MethodId) (args : Array Value) (below : List Frame) (meth : Method) (c : Code) (ls : Array Slot), dC p s m args c b n y.cls G → dM G ν s.heap → meth.sig.returnType = none → meth.locks = false → lv_has ls n (lv_args 0 av) →
      W p l e (rmD d) s m args below meth c s.heap [] 0 0 (MQ below (dQv G s.heap.size P) args s 0 0 (dA G s.heap.size)) (F0 m 0 ls [])) : cV l y b n d G av ν P := by
  intro sz
  refine Met.ofW (cc := b) (maxL := n) (ret := none) hy rfl ?_
  intro p e s m args below meth c s₁ B hml hv
  obtain ⟨rfl, hsz, hM, hK⟩ := hv
  subst hsz
  have hts := atoms_spec (ws := wsD y b n none) B.pre
  have hl := lv_entry av hn
  rw [lg_entry_eq]
  exact body p e s m _ below meth c _ ⟨B.exec, B.bytes, hml, findClass_of_methodNamed B.named, fun w h => hts w (List.mem_cons_of_mem _ h), hK⟩ hM B.returns B.notSynchronized hl
theorem dPc_blind (G : dG) (sz : Nat) (ν : Mm) (av : List Value) : FrameBlind (dPc G sz ν av) := fun a U g mk q => by
  obtain ⟨q0, q1, q2, q3⟩ := q
  exact ⟨q0, q1, q2, q3.calling⟩
section RW3
variable {p : Program} {l : Launch} {e : Env} {R : Room} {s : State} {m : MethodId} {args : Array Value} {below : List Frame} {meth : Method} {c : Code} {H : Heap} {locs : List Loc} {cells slots : Nat} {Q : State → Prop}
variable {cc : ByteArray} {pc n : Nat} {ls : Array Slot} {rest : List Value} {own : String} {G : dG} {ν ν' : Mm} {H0 : Heap} {r : Nat} {P : Nat → Mm → Prop} {PV : Mm → Prop}
theorem rI (hP : P r ν') (X : dC p s m args c cc n own G) (hM : dM G ν' H) (hS : dS G s.heap H locs) (hr : meth.sig.returnType = some .int) (hlk : meth.locks = false) (hdg : decode cc pc = .ok (.ireturn, 1)) : W p l e R s m args below meth c H locs 0 0 (MQ below (dQi G s.heap.size P) args s 0 0 (dA G s.heap.size)) (F0 m pc ls [.int (nI r)]) :=
  W.iret X.1 X.2.1 hr (fun t ht hW => ⟨⟨nI r, (r, ν'), rfl, ⟨rfl, hP⟩, by show dM G ν' t.heap; rw [ht]; exact hM⟩, hS.F ht⟩) hS.2.2 hdg hlk
theorem rZ (hP : P r ν') (X : dC p s m args c cc n own G) (hM : dM G ν' H) (hS : dS G s.heap H locs) (hr : meth.sig.returnType = some .boolean) (hlk : meth.locks = false) (h01 : r = 0 ∨ r = 1) (hdg : decode cc pc = .ok (.ireturn, 1)) : W p l e R s m args below meth c H locs 0 0 (MQ below (dQi G s.heap.size P) args s 0 0 (dA G s.heap.size)) (F0 m pc ls [.int (nI r)]) :=
  W.zret (ty := .boolean) X.1 X.2.1 hr (by rcases h01 with rfl | rfl <;> rfl) (fun t ht hW => ⟨⟨nI r, (r, ν'), rfl, ⟨rfl, hP⟩, by show dM G ν' t.heap; rw [ht]; exact hM⟩, hS.F ht⟩) hS.2.2 hdg hlk
theorem rV (hP : PV ν') (X : dC p s m args c cc n own G) (hM : dM G ν' H) (hS : dS G s.heap H locs) (hr : meth.sig.returnType = none) (hlk : meth.locks = false) (hdg : decode cc pc = .ok (.return_, 1)) : W p l e R s m args below meth c H locs 0 0 (MQ below (dQv G s.heap.size PV) args s 0 0 (dA G s.heap.size)) (F0 m pc ls []) :=
  W.vret X.1 X.2.1 hr (fun t ht hW => ⟨⟨ν', rfl, hP, by show dM G ν' t.heap; rw [ht]; exact hM⟩, hS.F ht⟩) hS.2.2 hdg hlk
/-- what a call of y needs of the tables (an instance method; a static one) -/
def mfV (y : MethodName) (b : ByteArray) (n k : Nat) (ret : Option FieldType) : Prop :=
  Cond.instanceMethod y ∈ allW ∧ Cond.selects y.cls y y ∈ allW ∧ Cond.initialized y.cls ∈ allW ∧ Cond.code y b n ret ∈ allW ∧ (y.cls ≠ "java/lang/invoke/MethodHandle" ∧ y.cls ≠ "java/lang/invoke/VarHandle" ∧ (parseMethodDescriptor y.desc).map (fun d => d.parameters.length) = some k)
def mfS (y : MethodName) (b : ByteArray) (n k : Nat) (ret : Option FieldType) : Prop :=
  Cond.static y ∈ allW ∧ Cond.initialized y.cls ∈ allW ∧ Cond.code y b n ret ∈ allW ∧ (y.cls ≠ "java/lang/invoke/MethodHandle" ∧ y.cls ≠ "java/lang/invoke/VarHandle" ∧ (parseMethodDescriptor y.desc).map (fun d => d.parameters.length) = some k)
variable {y : MethodName} {b : ByteArray} {nL nY d index : Nat} {ret : Option FieldType} {As st : List Value}
theorem kFree (hS : dS G H0 H locs) : ∀ q, dA G H.size q → dA G H0.size q := fun q h => h.elim Or.inl (fun h => Or.inr (Nat.le_trans hS.1 h))
theorem kPreS (X : dC p s m args c cc nL own G) (hM : dM G ν H) : PreS s H (dPc G H.size ν As) As := ⟨dPc_blind _ _ _ _, fun U hU hW => ⟨rfl, by rw [hU], by rw [hU]; exact hM, X.2.2.2.2.2.warm hW⟩⟩
theorem kPreV {i ci : Nat} {fs : List Value} {q : vw_C} (X : dC p s m args c cc nL own G) (hM : dM G ν H) (hi : i < 90) (hE : dE G i (ν i) = .inr (ci, fs)) (hq : dkCl[ci]? = some q) (hqc : q.1 = y.cls) : PreV s H y.cls (ra G i) (dPc G H.size ν (.ref (ra G i) :: As)) As :=
  ⟨dPc_blind _ _ _ _, by rw [← hqc]; exact va_recv X.2.2.2.2.2.1 hM.P hq ((wl_get hi).trans (by rw [hE])), fun U hU hW => ⟨rfl, by rw [hU], by rw [hU]; exact hM, X.2.2.2.2.2.warm hW⟩⟩
theorem kB (X : dC p s m args c cc nL own G) (hini : Cond.initialized y.cls ∈ allW) (hcode : Cond.code y b nY ret ∈ allW) (hlink : Cond.methodLink own index y ∈ allW) (hd : y.cls ≠ "java/lang/invoke/MethodHandle" ∧ y.cls ≠ "java/lang/invoke/VarHandle" ∧ (parseMethodDescriptor y.desc).map (fun d => d.parameters.length) = some As.length) (hR : d + 1 ≤ R.frames ∧ 8 + (nY + 11) + 40 * d ≤ R.locals) : CallB R s args own index y b nY ret (wsD y b nY ret) (rmD d) 0 0 As.length :=
  callB_of As.length X.2.2.2.2.1 (goodIn_all (fun _ h => h) hcode) rfl rfl rfl (X.2.2.2.2.1 _ hini) (X.2.2.2.2.1 _ hlink) hd hR
theorem kN {host : String} (X : dC p s m args c cc nL own G) (hini : Cond.initialized y.cls ∈ allW) (hcode : Cond.code y b nY ret ∈ allW) (hlink : Cond.methodLinkNest own index y host ∈ nestW) (hd : y.cls ≠ "java/lang/invoke/MethodHandle" ∧ y.cls ≠ "java/lang/invoke/VarHandle" ∧ (parseMethodDescriptor y.desc).map (fun d => d.parameters.length) = some As.length) (hR : d + 1 ≤ R.frames ∧ 8 + (nY + 11) + 40 * d ≤ R.locals) : va_CN R s args own index y host b nY ret (wsD y b nY ret) (rmD d) 0 0 As.length :=
  va_cnB As.length X.2.2.2.2.1 (goodIn_all (fun _ h => h) hcode) rfl rfl rfl (X.2.2.2.2.2.2 _ hlink) (X.2.2.2.2.1 _ hini) hd hR
/-- a call, own link: instance, int or boolean -/
theorem kVI {i ci : Nat} {fs : List Value} {q : vw_C} (X : dC p s m args c cc nL own G) (hM : dM G ν H) (hS : dS G H0 H locs) (hl : ls.size = nL) (hc : cI l y b nY ret d G (.ref (ra G i) :: As) ν P) (hi : i < 90) (hE : dE G i (ν i) = .inr (ci, fs)) (hq : dkCl[ci]? = some q) (hqc : q.1 = y.cls) (hlink : Cond.methodLink own index y ∈ allW) (mf : mfV y b nY As.length ret) (hR : d + 1 ≤ R.frames ∧ 8 + (nY + 11) + 40 * d ≤ R.locals) (hcs : cells ≤ R.cells ∧ slots ≤ R.slots) (hstk : st = As.reverse ++ .ref (ra G i) :: rest) (hst : (rest.map fun v => v.category).sum ≤ 8) (hdg : decode cc pc = .ok (.invokevirtual index, 3))
    (kk : ∀ (r : Nat) (ν' : Mm) (H1 : Heap) (locs1 : List Loc), P r ν' → dM G ν' H1 → dS G H0 H1 locs1 → W p l e R s m args below meth c H1 locs1 cells slots Q (F0 m (pc + 3) ls (.int (nI r) :: rest))) : W p l e R s m args below meth c H locs cells slots Q (F0 m pc ls st) := by
  subst hstk
  obtain ⟨m1, m2, m3, m4, m5⟩ := mf
  refine va_calli (va_runV (As := As) (rest := rest) ⟨X.1, X.2.1, X.2.2.1, X.2.2.2.1, X.2.2.2.2.1⟩ (hc H.size) ⟨kB X m3 m4 hlink m5 hR, X.2.2.2.2.1 _ m1, X.2.2.2.2.1 _ m2⟩ (kPreV X hM hi hE hq hqc) rfl rfl hl rfl (lv_room hst) hdg hcs) hS (fun q _ h => kFree hS q h) (kFree hS) (fun r1 u t H1 locs1 ht hvm hw hB _ _ hS1 => ?_)
  rw [ht] at hB
  rw [hw.1]
  exact kk u.1 u.2 H1 locs1 hw.2 hB hS1
theorem kVV {i ci : Nat} {fs : List Value} {q : vw_C} (X : dC p s m args c cc nL own G) (hM : dM G ν H) (hS : dS G H0 H locs) (hl : ls.size = nL) (hc : cV l y b nY d G (.ref (ra G i) :: As) ν PV) (hi : i < 90) (hE : dE G i (ν i) = .inr (ci, fs)) (hq : dkCl[ci]? = some q) (hqc : q.1 = y.cls) (hlink : Cond.methodLink own index y ∈ allW) (mf : mfV y b nY As.length none) (hR : d + 1 ≤ R.frames ∧ 8 + (nY + 11) + 40 * d ≤ R.locals) (hcs : cells ≤ R.cells ∧ slots ≤ R.slots) (hstk : st = As.reverse ++ .ref (ra G i) :: rest) (hst : (rest.map fun v => v.category).sum ≤ 8) (hdg : decode cc pc = .ok (.invokevirtual index, 3))
    (kk : ∀ (ν' : Mm) (H1 : Heap) (locs1 : List Loc), PV ν' → dM G ν' H1 → dS G H0 H1 locs1 → W p l e R s m args below meth c H1 locs1 cells slots Q (F0 m (pc + 3) ls rest)) : W p l e R s m args below meth c H locs cells slots Q (F0 m pc ls st) := by
  subst hstk
  obtain ⟨m1, m2, m3, m4, m5⟩ := mf
  refine va_callv (va_runV (As := As) (rest := rest) ⟨X.1, X.2.1, X.2.2.1, X.2.2.2.1, X.2.2.2.2.1⟩ (hc H.size) ⟨kB X m3 m4 hlink m5 hR, X.2.2.2.2.1 _ m1, X.2.2.2.2.1 _ m2⟩ (kPreV X hM hi hE hq hqc) rfl rfl hl rfl (lv_room hst) hdg hcs) hS (fun q _ h => kFree hS q h) (kFree hS) (fun u t H1 locs1 ht hvm hw hB _ _ hS1 => ?_)
  rw [ht] at hB
  exact kk u H1 locs1 hw hB hS1
/-- a nest mate's -/
theorem kNI {i ci : Nat} {fs : List Value} {q : vw_C} {host : String} (X : dC p s m args c cc nL own G) (hM : dM G ν H) (hS : dS G H0 H locs) (hl : ls.size = nL) (hc : cI l y b nY ret d G (.ref (ra G i) :: As) ν P) (hi : i < 90) (hE : dE G i (ν i) = .inr (ci, fs)) (hq : dkCl[ci]? = some q) (hqc : q.1 = y.cls) (hlink : Cond.methodLinkNest own index y host ∈ nestW) (mf : mfV y b nY As.length ret) (hR : d + 1 ≤ R.frames ∧ 8 + (nY + 11) + 40 * d ≤ R.locals) (hcs : cells ≤ R.cells ∧ slots ≤ R.slots) (hstk : st = As.reverse ++ .ref (ra G i) :: rest) (hst : (rest.map fun v => v.category).sum ≤ 8) (hdg : decode cc pc = .ok (.invokevirtual index, 3))
    (kk : ∀ (r : Nat) (ν' : Mm) (H1 : Heap) (locs1 : List Loc), P r ν' → dM G ν' H1 → dS G H0 H1 locs1 → W p l e R s m args below meth c H1 locs1 cells slots Q (F0 m (pc + 3) ls (.int (nI r) :: rest))) : W p l e R s m args below meth c H locs cells slots Q (F0 m pc ls st) := by
  subst hstk
  obtain ⟨m1, m2, m3, m4, m5⟩ := mf
  refine va_calli (va_runVN (host := host) (As := As) (rest := rest) ⟨X.1, X.2.1, X.2.2.1, X.2.2.2.1, X.2.2.2.2.1⟩ (hc H.size) ⟨kN X m3 m4 hlink m5 hR, X.2.2.2.2.1 _ m1, X.2.2.2.2.1 _ m2⟩ (kPreV X hM hi hE hq hqc) rfl rfl hl rfl (lv_room hst) hdg hcs) hS (fun q _ h => kFree hS q h) (kFree hS) (fun r1 u t H1 locs1 ht hvm hw hB _ _ hS1 => ?_)
  rw [ht] at hB
  rw [hw.1]
  exact kk u.1 u.2 H1 locs1 hw.2 hB hS1
theorem kNV {i ci : Nat} {fs : List Value} {q : vw_C} {host : String} (X : dC p s m args c cc nL own G) (hM : dM G ν H) (hS : dS G H0 H locs) (hl : ls.size = nL) (hc : cV l y b nY d G (.ref (ra G i) :: As) ν PV) (hi : i < 90) (hE : dE G i (ν i) = .inr (ci, fs)) (hq : dkCl[ci]? = some q) (hqc : q.1 = y.cls) (hlink : Cond.methodLinkNest own index y host ∈ nestW) (mf : mfV y b nY As.length none) (hR : d + 1 ≤ R.frames ∧ 8 + (nY + 11) + 40 * d ≤ R.locals) (hcs : cells ≤ R.cells ∧ slots ≤ R.slots) (hstk : st = As.reverse ++ .ref (ra G i) :: rest) (hst : (rest.map fun v => v.category).sum ≤ 8) (hdg : decode cc pc = .ok (.invokevirtual index, 3))
    (kk : ∀ (ν' : Mm) (H1 : Heap) (locs1 : List Loc), PV ν' → dM G ν' H1 → dS G H0 H1 locs1 → W p l e R s m args below meth c H1 locs1 cells slots Q (F0 m (pc + 3) ls rest)) : W p l e R s m args below meth c H locs cells slots Q (F0 m pc ls st) := by
  subst hstk
  obtain ⟨m1, m2, m3, m4, m5⟩ := mf
  refine va_callv (va_runVN (host := host) (As := As) (rest := rest) ⟨X.1, X.2.1, X.2.2.1, X.2.2.2.1, X.2.2.2.2.1⟩ (hc H.size) ⟨kN X m3 m4 hlink m5 hR, X.2.2.2.2.1 _ m1, X.2.2.2.2.1 _ m2⟩ (kPreV X hM hi hE hq hqc) rfl rfl hl rfl (lv_room hst) hdg hcs) hS (fun q _ h => kFree hS q h) (kFree hS) (fun u t H1 locs1 ht hvm hw hB _ _ hS1 => ?_)
  rw [ht] at hB
  exact kk u H1 locs1 hw hB hS1
/-- a static one -/
theorem kSI (X : dC p s m args c cc nL own G) (hM : dM G ν H) (hS : dS G H0 H locs) (hl : ls.size = nL) (hc : cI l y b nY ret d G As ν P) (hlink : Cond.methodLink own index y ∈ allW) (mf : mfS y b nY As.length ret) (hR : d + 1 ≤ R.frames ∧ 8 + (nY + 11) + 40 * d ≤ R.locals) (hcs : cells ≤ R.cells ∧ slots ≤ R.slots) (hstk : st = As.reverse ++ rest) (hst : (rest.map fun v => v.category).sum ≤ 8) (hdg : decode cc pc = .ok (.invokestatic index, 3))
    (kk : ∀ (r : Nat) (ν' : Mm) (H1 : Heap) (locs1 : List Loc), P r ν' → dM G ν' H1 → dS G H0 H1 locs1 → W p l e R s m args below meth c H1 locs1 cells slots Q (F0 m (pc + 3) ls (.int (nI r) :: rest))) : W p l e R s m args below meth c H locs cells slots Q (F0 m pc ls st) := by
  subst hstk
  obtain ⟨m1, m3, m4, m5⟩ := mf
  refine va_calli (va_runS (As := As) (rest := rest) ⟨X.1, X.2.1, X.2.2.1, X.2.2.2.1, X.2.2.2.2.1⟩ (hc H.size) ⟨kB X m3 m4 hlink m5 hR, X.2.2.2.2.1 _ m1⟩ (kPreS X hM) rfl rfl hl rfl (lv_room hst) hdg hcs) hS (fun q _ h => kFree hS q h) (kFree hS) (fun r1 u t H1 locs1 ht hvm hw hB _ _ hS1 => ?_)
  rw [ht] at hB
  rw [hw.1]
  exact kk u.1 u.2 H1 locs1 hw.2 hB hS1
theorem kSV (X : dC p s m args c cc nL own G) (hM : dM G ν H) (hS : dS G H0 H locs) (hl : ls.size = nL) (hc : cV l y b nY d G As ν PV) (hlink : Cond.methodLink own index y ∈ allW) (mf : mfS y b nY As.length none) (hR : d + 1 ≤ R.frames ∧ 8 + (nY + 11) + 40 * d ≤ R.locals) (hcs : cells ≤ R.cells ∧ slots ≤ R.slots) (hstk : st = As.reverse ++ rest) (hst : (rest.map fun v => v.category).sum ≤ 8) (hdg : decode cc pc = .ok (.invokestatic index, 3))
    (kk : ∀ (ν' : Mm) (H1 : Heap) (locs1 : List Loc), PV ν' → dM G ν' H1 → dS G H0 H1 locs1 → W p l e R s m args below meth c H1 locs1 cells slots Q (F0 m (pc + 3) ls rest)) : W p l e R s m args below meth c H locs cells slots Q (F0 m pc ls st) := by
  subst hstk
  obtain ⟨m1, m3, m4, m5⟩ := mf
  refine va_callv (va_runS (As := As) (rest := rest) ⟨X.1, X.2.1, X.2.2.1, X.2.2.2.1, X.2.2.2.2.1⟩ (hc H.size) ⟨kB X m3 m4 hlink m5 hR, X.2.2.2.2.1 _ m1⟩ (kPreS X hM) rfl rfl hl rfl (lv_room hst) hdg hcs) hS (fun q _ h => kFree hS q h) (kFree hS) (fun u t H1 locs1 ht hvm hw hB _ _ hS1 => ?_)
  rw [ht] at hB
  exact kk u H1 locs1 hw hB hS1
end RW3
