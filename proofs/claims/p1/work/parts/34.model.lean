/-! ===== the model (CouponDeskModel): its world, rows, contracts ===== -/
abbrev mG : Type := va_G × ClassId × Nat
abbrev mCl : List vw_C := [(RX6, TX6, 16)]
abbrev mT (J : mG) : List (ClassId × FieldType) := [(J.2.1, .int)]
abbrev mK (J : mG) (U : State) : Prop := va_K J.1 mCl (mT J) U
theorem inA6 : ∀ w ∈ wsX60, w ∈ allW := by decide +kernel
def ja (J : mG) (i : Nat) : Nat := J.2.2 + i
theorem ja_inj {J : mG} {i j : Nat} (h : ja J i = ja J j) : i = j := by
  unfold ja at h; omega
def mRow (J : mG) (n : Nat) (f : Nat → Int32) : va_E := .inl (J.2.1, n, .inl f)
/-- the object: thrown, articles, fee, limit, coupons, orders, pieces are the numbers 0, 1, 5, 6, 7, 9, 13 -/
def mFs (J : mG) (o : Nat → Int32) : List Value := [.int (o 0), .int (o 1), .ref (ja J 1), .ref (ja J 2), .ref (ja J 3), .int (o 5), .int (o 6), .int (o 7), .ref (ja J 4), .int (o 9), .ref (ja J 5), .ref (ja J 6), .ref (ja J 7), .int (o 13), .ref (ja J 8), .ref (ja J 9)]
def mW (J : mG) (o : Nat → Int32) (r : Nat → Nat → Int32) : va_W := [(ja J 0, .inr (0, mFs J o)), (ja J 1, mRow J 10 (r 1)), (ja J 2, mRow J 130 (r 2)), (ja J 3, mRow J 130 (r 3)), (ja J 4, mRow J 48 (r 4)), (ja J 5, mRow J 12 (r 5)), (ja J 6, mRow J 12 (r 6)), (ja J 7, mRow J 12 (r 7)), (ja J 8, mRow J 60 (r 8)), (ja J 9, mRow J 60 (r 9))]
/-- the model lies there; what its rows hold is told by nobody -/
def mM (J : mG) (o : Nat → Int32) (H : Heap) : Prop := ∃ r, va_P J.1 mCl (mW J o r) H
def mA (J : mG) (sz : Nat) : Nat → Prop := fun q => (∃ i, i < 10 ∧ q = ja J i) ∨ sz ≤ q
abbrev mS (J : mG) (H0 H : Heap) (locs : List Loc) : Prop := va_S (mA J H0.size) H0 H locs
theorem mW_at {J : mG} {o : Nat → Int32} {r : Nat → Nat → Int32} {k : Nat} {q : Nat × va_E} (h : (mW J o r)[k]? = some q) : k < 10 ∧ q.1 = ja J k := by
  have hk : k < 10 := (List.getElem?_eq_some_iff.mp h).1
  refine ⟨hk, ?_⟩
  rcases (show k = 0 ∨ k = 1 ∨ k = 2 ∨ k = 3 ∨ k = 4 ∨ k = 5 ∨ k = 6 ∨ k = 7 ∨ k = 8 ∨ k = 9 by omega) with rfl | rfl | rfl | rfl | rfl | rfl | rfl | rfl | rfl | rfl <;> (cases h; rfl)
theorem mW_D {J : mG} {o : Nat → Int32} {r : Nat → Nat → Int32} {sz : Nat} : va_D (mA J sz) (mW J o r) := by
  refine ⟨fun i j p q hi hj e => ?_, fun k q hk => ?_⟩
  · have h1 := (mW_at hi).2
    have h2 := (mW_at hj).2
    exact ja_inj (h1.symm.trans (e.trans h2))
  · exact Or.inl ⟨k, (mW_at hk).1, (mW_at hk).2⟩
theorem mM.same {J : mG} {o : Nat → Int32} {H H1 : Heap} (h : mM J o H) (ho : ∀ q : Nat, q < H.size → H1[q]? = H[q]?) : mM J o H1 := by
  obtain ⟨r, h⟩ := h
  exact ⟨r, fun k q hk => (h k q hk).kept (ho _ (h k q hk).lt)⟩
theorem mM.lt {J : mG} {o : Nat → Int32} {H : Heap} (h : mM J o H) : ja J 9 < H.size := by
  obtain ⟨r, h⟩ := h
  exact (h 9 _ rfl).lt
/-- the fresh numbers -/
def oF (t : Int32) : Nat → Int32 := fun k => if k = 0 then t else if k = 6 then 1000000 else 0
theorem oF_0 (t u : Int32) : va_up (oF t) 0 u = oF u := by
  funext k
  by_cases h : k = 0
  · subst h; rw [va_up_self]; rfl
  · rw [va_up_ne _ _ h]; simp [oF, h]
theorem oF_13 (t : Int32) : va_up (oF t) 13 0 = oF t := by
  funext k
  by_cases h : k = 13
  · subst h; rw [va_up_self]; rfl
  · rw [va_up_ne _ _ h]
/-- a frame of a method of the model -/
def mC (p : Program) (s : State) (m : MethodId) (args : Array Value) (c : Code) (cc : ByteArray) (n : Nat) (own : String) (J : mG) : Prop :=
  p.tables.exec = Jvm.exec ∧ c.code = cc ∧ c.maxLocals = n ∧ s.vm.findClass own = some m.cls ∧ (∀ w ∈ allW, w.before args s = true) ∧ mK J s
theorem mK.warm {J : mG} {s U : State} (hW : s.WarmedH U.vm) (h : mK J s) : mK J U := va_K.moved hW.alike h
theorem mK.calling {J : mG} {U : State} {g : JFrame} {mk : MethodId} {a : Array Value} (h : mK J U) : mK J (U.calling g mk a) := va_K.moved (u := U) (U := U.calling g mk a) (Vm.Alike.refl U.vm) h
abbrev mPc (J : mG) (sz : Nat) (o : Nat → Int32) (av : List Value) : Array Value → State → Prop := va_Pc av (fun U => U.heap.size = sz ∧ mM J o U.heap ∧ mK J U)
abbrev mQi (J : mG) (sz : Nat) (P : Int32 → (Nat → Int32) → Prop) : Array Value → State → Outcome → State → Prop := va_Qi (fun (x : Int32) (o : Nat → Int32) => P x o) (fun o t => mM J o t.heap) (mA J sz)
abbrev mQv (J : mG) (sz : Nat) (P : (Nat → Int32) → Prop) : Array Value → State → Outcome → State → Prop := va_Qv (fun (o : Nat → Int32) => P o) (fun o t => mM J o t.heap) (mA J sz)
abbrev mQl (J : mG) (sz : Nat) (P : Int64 → (Nat → Int32) → Prop) : Array Value → State → Outcome → State → Prop := va_Ql (fun (x : Int64) (o : Nat → Int32) => P x o) (fun o t => mM J o t.heap) (mA J sz)
abbrev mQd (J : mG) (sz : Nat) (P : UInt64 → (Nat → Int32) → Prop) : Array Value → State → Outcome → State → Prop := va_Qd (fun (x : UInt64) (o : Nat → Int32) => P x o) (fun o t => mM J o t.heap) (mA J sz)
/-- a method of the model, by the kind of its answer; k cells of n slots may be new -/
def mMet (l : Launch) (y : MethodName) (b : ByteArray) (n : Nat) (ret : Option FieldType) (d k1 n1 : Nat) (J : mG) (av : List Value) (o : Nat → Int32) (Qc : Nat → Array Value → State → Outcome → State → Prop) : Prop :=
  ∀ sz, Met l y (wsD y b n ret) (rmC d k1 n1) (mPc J sz o av) (Qc sz) k1 n1 (mA J sz)
theorem mMet_of {l : Launch} {y : MethodName} {b : ByteArray} {n : Nat} {ret : Option FieldType} {d k1 n1 : Nat} {J : mG} {av : List Value} {o : Nat → Int32} {Qc : Nat → Array Value → State → Outcome → State → Prop} (hy : plainName y.cls = true) (hn : (lg_sl av).length ≤ n)
    (body : ∀ (p : Program) (e : Env) (s : State) (m : MethodId) (args : Array Value) (below : List Frame) (meth : Method) (c : Code) (ls : Array Slot), mC p s m args c b n y.cls J → mM J o s.heap → meth.sig.returnType = ret → meth.locks = false → lv_has ls n (lv_args 0 av) →
      W p l e (rmC d k1 n1) s m args below meth c s.heap [] 0 0 (MQ below (Qc s.heap.size) args s k1 n1 (mA J s.heap.size)) (F0 m 0 ls [])) : mMet l y b n ret d k1 n1 J av o Qc := by
  intro sz
  refine Met.ofW (cc := b) (maxL := n) (ret := ret) hy rfl ?_
  intro p e s m args below meth c s₁ B hml hv
  obtain ⟨rfl, hsz, hM, hK⟩ := hv
  subst hsz
  have hts := atoms_spec (ws := wsD y b n ret) B.pre
  have hl := lv_entry av hn
  rw [lg_entry_eq]
  exact body p e s m _ below meth c _ ⟨B.exec, B.bytes, hml, findClass_of_methodNamed B.named, fun w h => hts w (List.mem_cons_of_mem _ h), hK⟩ hM B.returns B.notSynchronized hl
theorem mPc_blind (J : mG) (sz : Nat) (o : Nat → Int32) (av : List Value) : FrameBlind (mPc J sz o av) := fun a U g mk q => by
  obtain ⟨q0, q1, q2, q3⟩ := q
  exact ⟨q0, q1, q2, q3.calling⟩
section RQ
variable {p : Program} {l : Launch} {e : Env} {R : Room} {s : State} {m : MethodId} {args : Array Value} {below : List Frame} {meth : Method} {c : Code} {H : Heap} {locs : List Loc} {cells slots : Nat} {Q : State → Prop}
variable {cc : ByteArray} {pc n : Nat} {ls : Array Slot} {rest : List Value} {J : mG} {o : Nat → Int32} {H0 : Heap}
theorem q_get {ref : String} {index : Nat} {v : Value} (X : mC p s m args c cc n RX6 J) (hM : mM J o H) (k : Nat) (hk : k < 16) (hlink : Cond.fieldLink RX6 index ref (TX6 k).2.1 (TX6 k).2.2.1 ∈ allW) (hr : ref = (TX6 k).1) (hv : (mFs J o)[k]? = some v) (hdg : decode cc pc = .ok (.getfield index, 3))
    (kk : W p l e R s m args below meth c H locs cells slots Q (F0 m (pc + 3) ls (v :: rest))) : W p l e R s m args below meth c H locs cells slots Q (F0 m pc ls (.ref (ja J 0) :: rest)) := by
  obtain ⟨r, hP⟩ := hM
  subst hr
  exact va_get (D := J.1) (ci := 0) (C := RX6) (T := TX6) (N := 16) X.1 X.2.1 X.2.2.2.2.1 inA6 X.2.2.2.1 X.2.2.2.2.2 hP 0 rfl rfl k hk (X.2.2.2.2.1 _ hlink) (fun _ h => h) hv hdg kk
theorem q_put {ref : String} {index : Nat} {w : Int32} (X : mC p s m args c cc n RX6 J) (hM : mM J o H) (hS : mS J H0 H locs) (k : Nat) (hk : k < 16) (hlink : Cond.fieldLink RX6 index ref (TX6 k).2.1 (TX6 k).2.2.1 ∈ allW) (hr : ref = (TX6 k).1) (hfin : (TX6 k).2.2.2 = false) (hd : parseFieldDescriptor (TX6 k).2.2.1 = some .int) (hE : (mFs J o).set k (.int w) = mFs J (va_up o k w)) (hdg : decode cc pc = .ok (.putfield index, 3))
    (kk : ∀ (H1 : Heap) (locs1 : List Loc), mM J (va_up o k w) H1 → mS J H0 H1 locs1 → W p l e R s m args below meth c H1 locs1 cells slots Q (F0 m (pc + 3) ls rest)) : W p l e R s m args below meth c H locs cells slots Q (F0 m pc ls (.int w :: .ref (ja J 0) :: rest)) := by
  obtain ⟨r, hP⟩ := hM
  subst hr
  refine va_put (D := J.1) (ci := 0) (C := RX6) (T := TX6) (N := 16) (ty := .int) X.1 X.2.1 X.2.2.2.2.1 inA6 tyX6 tyX6_ok nmX6 X.2.2.2.1 X.2.2.2.2.2 hP mW_D hS 0 rfl rfl k hk (X.2.2.2.2.1 _ hlink) (fun _ h => h) hfin hd rfl rfl (by show k < (mFs J o).length; exact hk) hdg (fun H1 locs1 hP1 _ hS1 => kk H1 locs1 ⟨r, ?_⟩ hS1)
  rw [hE] at hP1
  exact hP1
/-- a row is written: which number is told by nobody -/
theorem q_ast {i : Int32} {w : Int32} {q N : Nat} {f : (Nat → Nat → Int32) → Nat → Int32} (X : mC p s m args c cc n RX6 J) (hM : mM J o H) (hS : mS J H0 H locs) (hq : ∀ r, (mW J o r)[q]? = some (ja J q, mRow J N (r q))) (hset : ∀ r g, (mW J o r).set q (ja J q, mRow J N g) = mW J o (va_up r q g)) (hin : vp_in i N) (hdg : decode cc pc = .ok (.iastore, 1))
    (kk : ∀ (H1 : Heap) (locs1 : List Loc), mM J o H1 → mS J H0 H1 locs1 → W p l e R s m args below meth c H1 locs1 cells slots Q (F0 m (pc + 1) ls rest)) : W p l e R s m args below meth c H locs cells slots Q (F0 m pc ls (.int w :: .int i :: .ref (ja J q) :: rest)) := by
  obtain ⟨r, hP⟩ := hM
  refine va_iast (D := J.1) (n := N) (f := r q) X.1 X.2.1 X.2.2.2.2.2 hP mW_D hS q 0 (hq r) rfl hin hdg (fun H1 locs1 hP1 _ hS1 => kk H1 locs1 ⟨va_up r q (upd (r q) i.toNatClampNeg w), ?_⟩ hS1)
  rw [← hset]
  exact hP1
theorem mFree {H1 : Heap} {locs1 : List Loc} (hS : mS J H0 H1 locs1) : ∀ q, mA J H1.size q → mA J H0.size q := fun q h => h.elim Or.inl (fun h => Or.inr (Nat.le_trans hS.1 h))
variable {P : Int32 → (Nat → Int32) → Prop} {PV : (Nat → Int32) → Prop} {o' : Nat → Int32} {r : Int32} {k1 n1 : Nat}
theorem qI (hP : P r o') (X : mC p s m args c cc n RX6 J) (hM : mM J o' H) (hS : mS J s.heap H locs) (hr : meth.sig.returnType = some .int) (hlk : meth.locks = false) (hdg : decode cc pc = .ok (.ireturn, 1)) : W p l e R s m args below meth c H locs k1 n1 (MQ below (mQi J s.heap.size P) args s k1 n1 (mA J s.heap.size)) (F0 m pc ls [.int r]) :=
  W.iret X.1 X.2.1 hr (fun t ht hW => ⟨⟨r, o', rfl, hP, by show mM J o' t.heap; rw [ht]; exact hM⟩, hS.F ht⟩) hS.2.2 hdg hlk
theorem qZ (hP : P r o') (X : mC p s m args c cc n RX6 J) (hM : mM J o' H) (hS : mS J s.heap H locs) (hr : meth.sig.returnType = some .boolean) (hlk : meth.locks = false) (h01 : r = 0 ∨ r = 1) (hdg : decode cc pc = .ok (.ireturn, 1)) : W p l e R s m args below meth c H locs k1 n1 (MQ below (mQi J s.heap.size P) args s k1 n1 (mA J s.heap.size)) (F0 m pc ls [.int r]) :=
  W.zret (ty := .boolean) X.1 X.2.1 hr (by rcases h01 with rfl | rfl <;> rfl) (fun t ht hW => ⟨⟨r, o', rfl, hP, by show mM J o' t.heap; rw [ht]; exact hM⟩, hS.F ht⟩) hS.2.2 hdg hlk
theorem qV (hP : PV o') (X : mC p s m args c cc n RX6 J) (hM : mM J o' H) (hS : mS J s.heap H locs) (hr : meth.sig.returnType = none) (hlk : meth.locks = false) (hdg : decode cc pc = .ok (.return_, 1)) : W p l e R s m args below meth c H locs k1 n1 (MQ below (mQv J s.heap.size PV) args s k1 n1 (mA J s.heap.size)) (F0 m pc ls []) :=
  W.vret X.1 X.2.1 hr (fun t ht hW => ⟨⟨o', rfl, hP, by show mM J o' t.heap; rw [ht]; exact hM⟩, hS.F ht⟩) hS.2.2 hdg hlk
theorem qJ {PJ : Int64 → (Nat → Int32) → Prop} {v : Int64} (hP : PJ v o') (X : mC p s m args c cc n RX6 J) (hM : mM J o' H) (hS : mS J s.heap H locs) (hr : meth.sig.returnType = some .long) (hlk : meth.locks = false) (hdg : decode cc pc = .ok (.lreturn, 1)) : W p l e R s m args below meth c H locs k1 n1 (MQ below (mQl J s.heap.size PJ) args s k1 n1 (mA J s.heap.size)) (F0 m pc ls [.long v]) :=
  W.lret X.1 X.2.1 hr (fun t ht hW => ⟨⟨v, o', rfl, hP, by show mM J o' t.heap; rw [ht]; exact hM⟩, hS.F ht⟩) hS.2.2 hdg hlk
theorem qD {PD : UInt64 → (Nat → Int32) → Prop} {v : UInt64} (hP : PD v o') (X : mC p s m args c cc n RX6 J) (hM : mM J o' H) (hS : mS J s.heap H locs) (hr : meth.sig.returnType = some .double) (hlk : meth.locks = false) (hdg : decode cc pc = .ok (.dreturn, 1)) : W p l e R s m args below meth c H locs k1 n1 (MQ below (mQd J s.heap.size PD) args s k1 n1 (mA J s.heap.size)) (F0 m pc ls [.double v]) :=
  W.dret X.1 X.2.1 hr (fun t ht hW => ⟨⟨v, o', rfl, hP, by show mM J o' t.heap; rw [ht]; exact hM⟩, hS.F ht⟩) hS.2.2 hdg hlk
variable {y : MethodName} {b : ByteArray} {nY d index : Nat} {ret : Option FieldType} {As st : List Value}
theorem mPreV (X : mC p s m args c cc n RX6 J) (hM : mM J o H) (hqc : RX6 = y.cls) : PreV s H y.cls (ja J 0) (mPc J H.size o (.ref (ja J 0) :: As)) As := by
  obtain ⟨r, hP⟩ := id hM
  exact ⟨mPc_blind _ _ _ _, by rw [← hqc]; exact va_recv X.2.2.2.2.2 hP (show mCl[0]? = some _ from rfl) (show (mW J o r)[0]? = some _ from rfl), fun U hU hW => ⟨rfl, by rw [hU], by rw [hU]; exact hM, mK.warm hW X.2.2.2.2.2⟩⟩
theorem mPreS (X : mC p s m args c cc n RX6 J) (hM : mM J o H) : PreS s H (mPc J H.size o As) As := ⟨mPc_blind _ _ _ _, fun U hU hW => ⟨rfl, by rw [hU], by rw [hU]; exact hM, mK.warm hW X.2.2.2.2.2⟩⟩
theorem mB (X : mC p s m args c cc n RX6 J) (hini : Cond.initialized y.cls ∈ allW) (hcode : Cond.code y b nY ret ∈ allW) (hlink : Cond.methodLink RX6 index y ∈ allW) (hd : y.cls ≠ "java/lang/invoke/MethodHandle" ∧ y.cls ≠ "java/lang/invoke/VarHandle" ∧ (parseMethodDescriptor y.desc).map (fun d => d.parameters.length) = some As.length) (hR : d + 1 ≤ R.frames ∧ 8 + (nY + 11) + 40 * d ≤ R.locals) : CallB R s args RX6 index y b nY ret (wsD y b nY ret) (rmC d 0 0) 0 0 As.length :=
  callB_of As.length X.2.2.2.2.1 (goodIn_all (fun _ h => h) hcode) rfl rfl rfl (X.2.2.2.2.1 _ hini) (X.2.2.2.2.1 _ hlink) hd hR
theorem kMI (X : mC p s m args c cc n RX6 J) (hM : mM J o H) (hS : mS J H0 H locs) (hl : ls.size = n) (hc : mMet l y b nY ret d 0 0 J (.ref (ja J 0) :: As) o (fun sz => mQi J sz P)) (hqc : RX6 = y.cls) (hlink : Cond.methodLink RX6 index y ∈ allW) (mf : mfV y b nY As.length ret) (hR : d + 1 ≤ R.frames ∧ 8 + (nY + 11) + 40 * d ≤ R.locals) (hcs : cells ≤ R.cells ∧ slots ≤ R.slots) (hstk : st = As.reverse ++ .ref (ja J 0) :: rest) (hst : (rest.map fun v => v.category).sum ≤ 8) (hdg : decode cc pc = .ok (.invokevirtual index, 3))
    (kk : ∀ (r : Int32) (o' : Nat → Int32) (H1 : Heap) (locs1 : List Loc), P r o' → mM J o' H1 → mS J H0 H1 locs1 → W p l e R s m args below meth c H1 locs1 cells slots Q (F0 m (pc + 3) ls (.int r :: rest))) : W p l e R s m args below meth c H locs cells slots Q (F0 m pc ls st) := by
  subst hstk
  obtain ⟨m1, m2, m3, m4, m5⟩ := mf
  refine va_calli (va_runV (As := As) (rest := rest) ⟨X.1, X.2.1, X.2.2.1, X.2.2.2.1, X.2.2.2.2.1⟩ (hc H.size) ⟨mB X m3 m4 hlink m5 hR, X.2.2.2.2.1 _ m1, X.2.2.2.2.1 _ m2⟩ (mPreV X hM hqc) rfl rfl hl rfl (lv_room hst) hdg hcs) hS (fun q _ h => mFree hS q h) (mFree hS) (fun r1 u t H1 locs1 ht hvm hw hB _ _ hS1 => ?_)
  rw [ht] at hB
  exact kk r1 u H1 locs1 hw hB hS1
theorem kMV (X : mC p s m args c cc n RX6 J) (hM : mM J o H) (hS : mS J H0 H locs) (hl : ls.size = n) (hc : mMet l y b nY none d 0 0 J (.ref (ja J 0) :: As) o (fun sz => mQv J sz PV)) (hqc : RX6 = y.cls) (hlink : Cond.methodLink RX6 index y ∈ allW) (mf : mfV y b nY As.length none) (hR : d + 1 ≤ R.frames ∧ 8 + (nY + 11) + 40 * d ≤ R.locals) (hcs : cells ≤ R.cells ∧ slots ≤ R.slots) (hstk : st = As.reverse ++ .ref (ja J 0) :: rest) (hst : (rest.map fun v => v.category).sum ≤ 8) (hdg : decode cc pc = .ok (.invokevirtual index, 3))
    (kk : ∀ (o' : Nat → Int32) (H1 : Heap) (locs1 : List Loc), PV o' → mM J o' H1 → mS J H0 H1 locs1 → W p l e R s m args below meth c H1 locs1 cells slots Q (F0 m (pc + 3) ls rest)) : W p l e R s m args below meth c H locs cells slots Q (F0 m pc ls st) := by
  subst hstk
  obtain ⟨m1, m2, m3, m4, m5⟩ := mf
  refine va_callv (va_runV (As := As) (rest := rest) ⟨X.1, X.2.1, X.2.2.1, X.2.2.2.1, X.2.2.2.2.1⟩ (hc H.size) ⟨mB X m3 m4 hlink m5 hR, X.2.2.2.2.1 _ m1, X.2.2.2.2.1 _ m2⟩ (mPreV X hM hqc) rfl rfl hl rfl (lv_room hst) hdg hcs) hS (fun q _ h => mFree hS q h) (mFree hS) (fun u t H1 locs1 ht hvm hw hB _ _ hS1 => ?_)
  rw [ht] at hB
  exact kk u H1 locs1 hw hB hS1
theorem kMS (X : mC p s m args c cc n RX6 J) (hM : mM J o H) (hS : mS J H0 H locs) (hl : ls.size = n) (hc : mMet l y b nY ret d 0 0 J As o (fun sz => mQi J sz P)) (hlink : Cond.methodLink RX6 index y ∈ allW) (mf : mfS y b nY As.length ret) (hR : d + 1 ≤ R.frames ∧ 8 + (nY + 11) + 40 * d ≤ R.locals) (hcs : cells ≤ R.cells ∧ slots ≤ R.slots) (hstk : st = As.reverse ++ rest) (hst : (rest.map fun v => v.category).sum ≤ 8) (hdg : decode cc pc = .ok (.invokestatic index, 3))
    (kk : ∀ (r : Int32) (o' : Nat → Int32) (H1 : Heap) (locs1 : List Loc), P r o' → mM J o' H1 → mS J H0 H1 locs1 → W p l e R s m args below meth c H1 locs1 cells slots Q (F0 m (pc + 3) ls (.int r :: rest))) : W p l e R s m args below meth c H locs cells slots Q (F0 m pc ls st) := by
  subst hstk
  obtain ⟨m1, m3, m4, m5⟩ := mf
  refine va_calli (va_runS (As := As) (rest := rest) ⟨X.1, X.2.1, X.2.2.1, X.2.2.2.1, X.2.2.2.2.1⟩ (hc H.size) ⟨mB X m3 m4 hlink m5 hR, X.2.2.2.2.1 _ m1⟩ (mPreS X hM) rfl rfl hl rfl (lv_room hst) hdg hcs) hS (fun q _ h => mFree hS q h) (mFree hS) (fun r1 u t H1 locs1 ht hvm hw hB _ _ hS1 => ?_)
  rw [ht] at hB
  exact kk r1 u H1 locs1 hw hB hS1
end RQ
/-! its making -/
def jM (J : mG) (E : Nat → va_E) (k : Nat) (H : Heap) : Prop := H.size = J.2.2 + k ∧ ∀ i, i < k → va_at J.1 mCl (ja J i, E i) H
def jA (J : mG) : Nat → Prop := fun q => J.2.2 ≤ q
abbrev jS (J : mG) (H0 H : Heap) (locs : List Loc) : Prop := va_S (jA J) H0 H locs
theorem jA_ja (J : mG) (i : Nat) : jA J (ja J i) := Nat.le_add_right _ _
theorem jM.size {J : mG} {E : Nat → va_E} {k : Nat} {H : Heap} (h : jM J E k H) : H.size = ja J k := h.1
theorem jM.up {J : mG} {E : Nat → va_E} {k i : Nat} {e : va_E} {H H1 : Heap} (h : jM J E k H) (hi : i < k) (he : va_at J.1 mCl (ja J i, e) H1) (z : H1.size = H.size) (o : ∀ q : Nat, q ≠ ja J i → H1[q]? = H[q]?) : jM J (va_up E i e) k H1 := by
  refine ⟨z.trans h.1, fun j hj => ?_⟩
  by_cases e1 : j = i
  · subst e1; rw [va_up_self]; exact he
  · rw [va_up_ne _ _ e1]
    exact (h.2 j hj).kept (o _ (fun q => e1 (ja_inj q)))
theorem jM.push {J : mG} {E : Nat → va_E} {k : Nat} {e : va_E} {H H1 : Heap} (h : jM J E k H) (he : va_at J.1 mCl (ja J k, e) H1) (z : H1.size = H.size + 1) (o : ∀ q : Nat, q < H.size → H1[q]? = H[q]?) : jM J (va_up E k e) (k + 1) H1 := by
  refine ⟨by rw [z, h.1]; omega, fun j hj => ?_⟩
  by_cases e1 : j = k
  · subst e1; rw [va_up_self]; exact he
  · rw [va_up_ne _ _ e1]
    exact (h.2 j (by omega)).kept (o _ (by rw [h.1]; show ja J j < _; unfold ja; omega))
theorem jS.grow {J : mG} {H0 H H1 : Heap} {locs : List Loc} (h : jS J H0 H locs) (z : H.size ≤ H1.size) (o : ∀ q : Nat, q < H.size → H1[q]? = H[q]?) : jS J H0 H1 locs :=
  ⟨Nat.le_trans h.1 z, fun x h1 h2 => (o x (Nat.lt_of_lt_of_le h1 h.1)).trans (h.2.1 x h1 h2), h.2.2⟩
section RJ
variable {p : Program} {l : Launch} {e : Env} {R : Room} {s : State} {m : MethodId} {args : Array Value} {below : List Frame} {meth : Method} {c : Code} {H : Heap} {locs : List Loc} {cells slots : Nat} {Q : State → Prop}
variable {cc : ByteArray} {pc n : Nat} {ls : Array Slot} {rest : List Value} {own : String} {J : mG} {E : Nat → va_E} {k : Nat} {H0 : Heap}
theorem j_put {ref C : String} {T : u_T} {N ci index i : Nat} {fs fs' : List Value} {v : Value} {ty : FieldType} {ty0 : Nat → FieldType} (X : mC p s m args c cc n own J) (hP : jM J E k H) (hS : jS J H0 H locs) (hin : ∀ w ∈ u_ws C T N, w ∈ allW) (hty : ∀ k, k < N → parseFieldDescriptor (T k).2.2.1 = some (ty0 k)) (hnm : ∀ a, a < N → ∀ b, b < N → a ≠ b → (T a).2.1 ≠ (T b).2.1) (hi0 : i < k) (hE : E i = .inr (ci, fs)) (hc : mCl[ci]? = some (C, T, N)) (f : Nat) (hf : f < N) (hlink : Cond.fieldLink own index ref (T f).2.1 (T f).2.2.1 ∈ allW) (hr : ref = (T f).1) (hfin : (T f).2.2.2 = false) (hd : parseFieldDescriptor (T f).2.2.1 = some ty) (hn : narrow ty v = v) (hfit : fits ty v = true) (hl : f < fs.length) (hfs : fs.set f v = fs')
    (hdg : decode cc pc = .ok (.putfield index, 3)) (kk : ∀ (H1 : Heap) (locs1 : List Loc), jM J (va_up E i (.inr (ci, fs'))) k H1 → jS J H0 H1 locs1 → W p l e R s m args below meth c H1 locs1 cells slots Q (F0 m (pc + 3) ls rest)) : W p l e R s m args below meth c H locs cells slots Q (F0 m pc ls (v :: .ref (ja J i) :: rest)) := by
  subst hfs
  obtain ⟨hx, hb, -, hown, hts, hK⟩ := X
  subst hr
  have hap := va_apart (own := own) hts hin ty0 hty hnm hK hc
  have h0 := hP.2 i hi0
  rw [hE] at h0
  obtain ⟨r, h1, cell, q1, q2, q3, q4⟩ := h0
  have hr : r = (C, T, N) := Option.some.inj (h1.symm.trans hc)
  subst hr
  obtain ⟨hSS, hfc, kC, hkC, hkind⟩ := hK.1 ci _ hc
  obtain ⟨cf, kf, fi, fd, hi, hsl⟩ := hSS f hf
  have hlay := hts _ (hin _ (u_in_lay hf))
  unfold u_lay at hlay
  rw [if_neg (by rw [hfin]; decide)] at hlay
  have hst := (u_facts hfc hkC (u_lays hts hin hf) hi).1
  have h6 := u_store hfc hkC hkind hlay hi hd hn hfit
  refine W.putK hx hb (f := fd) ⟨hown, hts _ hlink, ⟨_, _, _, hi⟩, hst⟩ (by rw [q2]; exact h6) q1 q3 (by rw [hsl]; exact k2_hasslot (q4 f hf)) rfl rfl hdg fun H' e1 e2 e3 => ?_
  rw [hsl] at e1 ⊢
  exact kk H' _ (hP.up hi0 ⟨_, hc, t_OB.to (V := updV (vp_V fs) f v) ⟨_, e1, q2, q3, t_set q4 hap hf v⟩ (fun j _ => vp_updV_set hl v j)⟩ e2 e3) (hS.put e2 e3 (jA_ja J i))
theorem j_putF {C : String} {T : u_T} {N ci index i : Nat} {fs fs' : List Value} {v : Value} {ty : FieldType} {ty0 : Nat → FieldType} (X : mC p s m args c cc n own J) (hini : meth.name = "<init>") (hP : jM J E k H) (hS : jS J H0 H locs) (hin : ∀ w ∈ u_ws C T N, w ∈ allW) (hty : ∀ k, k < N → parseFieldDescriptor (T k).2.2.1 = some (ty0 k)) (hnm : ∀ a, a < N → ∀ b, b < N → a ≠ b → (T a).2.1 ≠ (T b).2.1) (hi0 : i < k) (hE : E i = .inr (ci, fs)) (hc : mCl[ci]? = some (C, T, N)) (f : Nat) (hf : f < N) (hlink : Cond.fieldLink own index (T f).1 (T f).2.1 (T f).2.2.1 ∈ allW) (hdecl : (T f).1 = own) (hfin : (T f).2.2.2 = true) (hd : parseFieldDescriptor (T f).2.2.1 = some ty) (hn : narrow ty v = v) (hfit : fits ty v = true) (hl : f < fs.length) (hfs : fs.set f v = fs')
    (hdg : decode cc pc = .ok (.putfield index, 3)) (kk : ∀ (H1 : Heap) (locs1 : List Loc), jM J (va_up E i (.inr (ci, fs'))) k H1 → jS J H0 H1 locs1 → W p l e R s m args below meth c H1 locs1 cells slots Q (F0 m (pc + 3) ls rest)) : W p l e R s m args below meth c H locs cells slots Q (F0 m pc ls (v :: .ref (ja J i) :: rest)) := by
  subst hfs
  obtain ⟨hx, hb, -, hown, hts, hK⟩ := X
  have hap := va_apart (own := own) hts hin ty0 hty hnm hK hc
  have h0 := hP.2 i hi0
  rw [hE] at h0
  obtain ⟨r, h1, cell, q1, q2, q3, q4⟩ := h0
  have hr : r = (C, T, N) := Option.some.inj (h1.symm.trans hc)
  subst hr
  obtain ⟨hSS, hfc, kC, hkC, hkind⟩ := hK.1 ci _ hc
  obtain ⟨cf, kf, fi, fd, hi, hsl⟩ := hSS f hf
  have hlay := hts _ (hin _ (u_in_lay hf))
  unfold u_lay at hlay
  rw [if_pos hfin] at hlay
  have hst := (u_facts hfc hkC (u_lays hts hin hf) hi).1
  have hcf : m.cls = cf := by
    obtain ⟨_, _, c', _, _, _, -, -, hf', -, -, -, hown2, -⟩ := Cond.laysFinal_spec hlay
    have e1 : c' = cf := by have := hi.symm.trans hf'; simp at this; exact this.1.symm
    rw [hdecl] at hown2
    rw [← e1]; exact Option.some.inj (hown.symm.trans hown2)
  have h6 := u_fits hfc hkC hkind (Or.inr hlay) hi hd hn hfit
  refine W.putFinK hx hb hown (hts _ hlink) hi hst hcf hini (by rw [q2]; exact h6) q1 q3 (by rw [hsl]; exact k2_hasslot (q4 f hf)) rfl rfl hdg fun H' e1 e2 e3 => ?_
  rw [hsl] at e1 ⊢
  exact kk H' _ (hP.up hi0 ⟨_, hc, t_OB.to (V := updV (vp_V fs) f v) ⟨_, e1, q2, q3, t_set q4 hap hf v⟩ (fun j _ => vp_updV_set hl v j)⟩ e2 e3) (hS.put e2 e3 (jA_ja J i))
theorem j_newI {N : Nat} (X : mC p s m args c cc n own J) (hP : jM J E k H) (hS : jS J H0 H locs) (harr : Cond.arrayClass .int ∈ allW) (hN : N < 2 ^ 27) (hcells : cells + 1 ≤ R.cells) (hslots : slots + N ≤ R.slots) (hdg : decode cc pc = .ok (.newarray .int, 2))
    (kk : ∀ (H1 : Heap), jM J (va_up E k (mRow J N (fun _ => 0))) (k + 1) H1 → jS J H0 H1 locs → W p l e R s m args below meth c H1 locs (cells + 1) (slots + N) Q (F0 m (pc + 2) ls (.ref (ja J k) :: rest))) : W p l e R s m args below meth c H locs cells slots Q (F0 m pc ls (.int (nI N) :: rest)) := by
  obtain ⟨hx, hb, -, hown, hts, hK⟩ := X
  refine va_newaK hx hb (atype := .int) (hts _ harr) rfl hdg rfl (nI_pos (by omega)) (nI_clamp (by omega)) (by show N * 4 ≤ 536870912; omega) hcells hslots hP.size fun H1 cA e1 z1 o1 hAr hNm => ?_
  have hcA : cA = J.2.1 := by
    have h2 : s.vm.findClass ("[" ++ FieldType.int.toString) = some J.2.1 := (hK.2 0 _ rfl).2
    exact Option.some.inj (hNm.symm.trans h2)
  subst hcA
  have o2 : ∀ q : Nat, q < H.size → H1[q]? = H[q]? := fun q hq => o1 q (by rw [← hP.size]; exact hq)
  exact kk H1 (hP.push e1 (by rw [z1, hP.size]) o2) (jS.grow hS (by rw [z1, hP.size]; omega) o2)
end RJ
