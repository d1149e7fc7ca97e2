/-! ===== the law's wrappers: a call of the desk's in a try, its answer put into the row of one long ===== -/
/-- the row of one long -/
def oM (G : dG) (cL : ClassId) (a : Nat) (f : Nat → Int64) (H : Heap) : Prop := va_P G.1 dkCl [(a, .inl (cL, 1, .inr (.inl f)))] H
def oK (G : dG) (cL : ClassId) (U : State) : Prop := va_K G.1 dkCl [(cL, .long)] U
def nC (U : State) : Prop := va_Nc nIOO nIAE U ∧ va_Nc nISE nIAE U
theorem nC.moved {u U : State} (hvm : u.vm.Alike U.vm) (h : nC u) : nC U := ⟨h.1.moved hvm, h.2.moved hvm⟩
def wA (G : dG) (a sz : Nat) : Nat → Prop := fun q => dA G sz q ∨ q = a
abbrev wS (G : dG) (a : Nat) (H0 H : Heap) (locs : List Loc) : Prop := va_S (wA G a H0.size) H0 H locs
def wRm (d : Nat) : Room := { frames := d + 7, cells := 1, slots := 6, locals := 40 * d + 140 }
abbrev wsW (y : MethodName) (b : ByteArray) (n : Nat) (hh : List (Nat × Nat × Nat × Nat)) : List Cond := Cond.codeWith y b n (some .int) hh :: allW
abbrev wPc (G : dG) (cL : ClassId) (a sz : Nat) (f : Nat → Int64) (av : List Value) : Array Value → State → Prop := va_Pc av (fun U => U.heap.size = sz ∧ dM G nu0 U.heap ∧ dK G U ∧ xE G U U.heap ∧ oM G cL a f U.heap ∧ oK G cL U ∧ nC U)
abbrev wQ (G : dG) (cL : ClassId) (a sz : Nat) (k : Int32) (v : Int64) : Array Value → State → Outcome → State → Prop := va_Qi (fun (x : Int32) (f : Nat → Int64) => x = k ∧ (k = 0 → f 0 = v)) (fun f t => oM G cL a f t.heap) (wA G a sz)
/-- the wrapper answers k, and leaves v in the row where k is 0 -/
def wMet (l : Launch) (y : MethodName) (b : ByteArray) (n : Nat) (hh : List (Nat × Nat × Nat × Nat)) (d : Nat) (G : dG) (cL : ClassId) (a : Nat) (av : List Value) (k : Int32) (v : Int64) : Prop :=
  ∀ (sz : Nat) (f : Nat → Int64), Met l y (wsW y b n hh) (wRm d) (wPc G cL a sz f av) (wQ G cL a sz k v) 1 6 (wA G a sz)
/-- what a wrapper's body has -/
abbrev wB (p : Program) (s : State) (m : MethodId) (args : Array Value) (meth : Method) (c : Code) (b : ByteArray) (n : Nat) (hh : List (Nat × Nat × Nat × Nat)) (G : dG) (cL : ClassId) : Prop :=
  dC p s m args c b n RL G ∧ xE G s s.heap ∧ c.exceptionTable.toList = tableOf hh ∧ meth.locks = false ∧ G.2.2 + 90 ≤ s.heap.size ∧ oK G cL s ∧ nC s ∧ meth.sig.returnType = some .int
theorem wMet_of {l : Launch} {y : MethodName} {b : ByteArray} {n : Nat} {hh : List (Nat × Nat × Nat × Nat)} {d : Nat} {G : dG} {cL : ClassId} {a : Nat} {av : List Value} {k : Int32} {v : Int64} (hy : plainName y.cls = true) (ho : y.cls = RL) (hn : (lg_sl av).length ≤ n)
    (body : ∀ (p : Program) (e : Env) (s : State) (m : MethodId) (args : Array Value) (below : List Frame) (meth : Method) (c : Code) (ls : Array Slot) (f : Nat → Int64), wB p s m args meth c b n hh G cL → dM G nu0 s.heap → oM G cL a f s.heap → lv_has ls n (lv_args 0 av) →
      W p l e (wRm d) s m args below meth c s.heap [] 0 0 (MQ below (wQ G cL a s.heap.size k v) args s 1 6 (wA G a s.heap.size)) (F0 m 0 ls [])) : wMet l y b n hh d G cL a av k v := by
  intro sz f
  refine va_MetW (cc := b) (maxL := n) (ret := some .int) (hh := hh) hy rfl ?_
  intro p e s m args below meth c s₁ B hml hv
  obtain ⟨rfl, hsz, hM, hK, hE, hO, hOK, hN⟩ := hv
  subst hsz
  have hts := atoms_spec (ws := wsW y b n hh) B.pre
  have hl := lv_entry av hn
  rw [lg_entry_eq]
  exact body p e s m _ below meth c _ f ⟨⟨B.exec, B.bytes, hml, by rw [← ho]; exact findClass_of_methodNamed B.named, fun w h => hts w (List.mem_cons_of_mem _ h), hK⟩, hE, vx_table (x := y) B (hts _ List.mem_cons_self), B.notSynchronized, hM.end, hOK, hN, B.returns⟩ hM hO hl
theorem wPc_blind (G : dG) (cL : ClassId) (a sz : Nat) (f : Nat → Int64) (av : List Value) : FrameBlind (wPc G cL a sz f av) := fun a' U g mk q => by
  obtain ⟨q0, q1, q2, q3, q4, q5, q6, q7⟩ := q
  exact ⟨q0, q1, q2, q3.calling, q4.calling, q5, va_K.moved (u := U) (U := U.calling g mk a') (Vm.Alike.refl U.vm) q6, nC.moved (u := U) (U := U.calling g mk a') (Vm.Alike.refl U.vm) q7⟩
theorem notdA {G : dG} {a sz : Nat} (h1 : G.2.2 + 90 ≤ a) (h2 : a < sz) : ¬ dA G sz a := by
  rintro (⟨i, hi, rfl⟩ | h)
  · unfold ra at h1; omega
  · omega
theorem oM.lt {G : dG} {cL : ClassId} {a : Nat} {f : Nat → Int64} {H : Heap} (h : oM G cL a f H) : a < H.size := (h 0 _ rfl).lt
theorem oM.keep {G : dG} {cL : ClassId} {a : Nat} {f : Nat → Int64} {H H1 : Heap} (h : oM G cL a f H) (hq : H1[a]? = H[a]?) : oM G cL a f H1 := fun k q hk => by
  have hk0 : k = 0 := by
    have := (List.getElem?_eq_some_iff.mp hk).1
    simp at this; omega
  subst hk0
  cases hk
  exact (h 0 _ rfl).kept hq
theorem oD {G : dG} {a sz : Nat} {e : va_E} : va_D (wA G a sz) [(a, e)] := by
  refine ⟨fun i j p q hi hj _ => ?_, fun k q hk => ?_⟩
  · have h1 := (List.getElem?_eq_some_iff.mp hi).1
    have h2 := (List.getElem?_eq_some_iff.mp hj).1
    simp at h1 h2; omega
  · have hk0 : k = 0 := by
      have := (List.getElem?_eq_some_iff.mp hk).1
      simp at this; omega
    subst hk0
    cases hk
    exact Or.inr rfl
theorem dA_grow {G : dG} {n n' q : Nat} (h : n ≤ n') (hq : dA G n' q) : dA G n q := hq.elim Or.inl (fun h1 => Or.inr (Nat.le_trans h h1))
theorem wS.desk {G : dG} {a : Nat} {H0 H : Heap} {locs : List Loc} (h : wS G a H0 H locs) (ha : G.2.2 ≤ a) (h0 : G.2.2 + 90 ≤ H0.size) : pS G H0 H locs :=
  ⟨h.1, fun q h1 h2 => h.2.1 q h1 (fun z => h2 (z.elim (dA_pA h0 q) (fun e => by subst e; exact ha))), fun q hq => (h.2.2 q hq).elim (dA_pA h0 _) (fun e => by rw [e]; exact ha)⟩
section RW9
variable {p : Program} {l : Launch} {e : Env} {R : Room} {s : State} {m : MethodId} {args : Array Value} {below : List Frame} {meth : Method} {c : Code} {H : Heap} {locs : List Loc} {cells slots : Nat} {Q : State → Prop}
variable {cc : ByteArray} {pc nL nY d index a : Nat} {ls : Array Slot} {rest st As : List Value} {G : dG} {cL : ClassId} {f : Nat → Int64} {y : MethodName} {b : ByteArray} {ret : Option FieldType} {hh : List (Nat × Nat × Nat × Nat)}
/-- the desk's call answers -/
theorem kWI {P : Nat → Mm → Prop} (B : wB p s m args meth c cc nL hh G cL) (ha : G.2.2 + 90 ≤ a) (hM : dM G nu0 H) (hO : oM G cL a f H) (hS : wS G a s.heap H locs) (hl : ls.size = nL) (hc : cI l y b nY ret d G (.ref (ra G 0) :: As) nu0 P) (hqc : RX5 = y.cls) (hlink : Cond.methodLink RL index y ∈ allW) (mf : mfV y b nY As.length ret) (hR : d + 1 ≤ R.frames ∧ 8 + (nY + 11) + 40 * d ≤ R.locals) (hcs : cells ≤ R.cells ∧ slots ≤ R.slots) (hstk : st = As.reverse ++ .ref (ra G 0) :: rest) (hst : (rest.map fun v => v.category).sum ≤ 8) (hdg : decode cc pc = .ok (.invokevirtual index, 3))
    (kk : ∀ (r : Nat) (ν' : Mm) (H1 : Heap) (locs1 : List Loc), P r ν' → oM G cL a f H1 → wS G a s.heap H1 locs1 → W p l e R s m args below meth c H1 locs1 cells slots Q (F0 m (pc + 3) ls (.int (nI r) :: rest))) : W p l e R s m args below meth c H locs cells slots Q (F0 m pc ls st) := by
  subst hstk
  obtain ⟨m1, m2, m3, m4, m5⟩ := mf
  have X := B.1
  refine va_calli (va_runV (As := As) (rest := rest) ⟨X.1, X.2.1, X.2.2.1, X.2.2.2.1, X.2.2.2.2.1⟩ (hc H.size) ⟨kB X m3 m4 hlink m5 hR, X.2.2.2.2.1 _ m1, X.2.2.2.2.1 _ m2⟩ (kPreV X hM (by decide) (dE_desk G _) (show dkCl[5]? = some _ from rfl) hqc) rfl rfl hl rfl (lv_room hst) hdg hcs) hS (fun q _ h => Or.inl (dA_grow hS.1 h)) (fun q h => Or.inl (dA_grow hS.1 h)) (fun r1 u t H1 locs1 ht hvm hw hB hz ho hS1 => ?_)
  rw [hw.1]
  exact kk u.1 u.2 H1 locs1 hw.2 (hO.keep (ho a hO.lt (notdA ha hO.lt))) hS1
/-- it throws E -/
theorem kWX {E : String} (B : wB p s m args meth c cc nL hh G cL) (ha : G.2.2 + 90 ≤ a) (hM : dM G nu0 H) (hO : oM G cL a f H) (hS : wS G a s.heap H locs) (hl : ls.size = nL) (hc : cXI l y b nY ret d G (.ref (ra G 0) :: As) E) (hqc : RX5 = y.cls) (hlink : Cond.methodLink RL index y ∈ allW) (mf : mfV y b nY As.length ret) (hR : d + 7 ≤ R.frames ∧ 8 + (nY + 11) + (40 * d + 90) ≤ R.locals) (hcs : 0 + 1 ≤ R.cells ∧ 0 + 6 ≤ R.slots) (hstk : st = As.reverse ++ .ref (ra G 0) :: rest) (hst : (rest.map fun v => v.category).sum ≤ 8) (hdg : decode cc pc = .ok (.invokevirtual index, 3))
    (kx : ∀ (ce : Cell) (q9 : Addr) (H1 : Heap) (locs1 : List Loc), oM G cL a f H1 → wS G a s.heap H1 locs1 → H1[q9]? = some ce → ce.vm = .none → s.vm.findClass E = some ce.cls → vx_W p l e R s m args below meth c H1 locs1 (0 + 1) (0 + 6) Q (F0 m pc ls rest) q9) : W p l e R s m args below meth c H locs 0 0 Q (F0 m pc ls st) := by
  subst hstk
  obtain ⟨m1, m2, m3, m4, m5⟩ := mf
  have X := B.1
  refine vx_calli (vx_runV (As := As) (rest := rest) ⟨X.1, X.2.1, X.2.2.1, X.2.2.2.1, X.2.2.2.2.1⟩ (hc H.size) ⟨callB_of As.length X.2.2.2.2.1 (goodIn_all (fun _ h => h) m4) rfl rfl rfl (X.2.2.2.2.1 _ m3) (X.2.2.2.2.1 _ hlink) m5 hR, X.2.2.2.2.1 _ m1, X.2.2.2.2.1 _ m2⟩
    ⟨xPc_blind _ _ _, by rw [← hqc]; exact va_recv X.2.2.2.2.2.1 hM.P (show dkCl[5]? = some _ from rfl) ((wl_get (i := 0) (by decide)).trans (by rw [dE_desk])), fun U hU hW => ⟨rfl, by rw [hU], by rw [hU]; exact hM, X.2.2.2.2.2.warm hW, by rw [hU]; exact B.2.1.go hW (wS.desk hS (by omega) B.2.2.2.2.1)⟩⟩ rfl rfl hl rfl (lv_room hst) hdg hcs) hS (fun q _ h => Or.inl (dA_grow hS.1 h)) (fun q h => Or.inl (dA_grow hS.1 h)) (fun q _ h => Or.inl (dA_grow hS.1 h))
    (fun E1 ce q9 u t H1 locs1 ht hvm hp hB hz hk hS1 hce hcv hcl => ?_) (fun r u t H1 locs1 ht hvm hw _ _ _ _ => hw.elim)
  obtain ⟨rfl, hB⟩ := hB
  exact kx ce q9 H1 locs1 (hO.keep (hk a hO.lt (notdA ha hO.lt))) hS1 hce hcv hcl
/-- caught by the first handler, by the second -/
theorem kC1 {E : String} {q9 : Addr} {ce : Cell} {x : Nat × Nat × Nat × Nat} {hs : List (Nat × Nat × Nat × Nat)} (B : wB p s m args meth c cc nL (x :: hs) G cL) (hx : covers ⟨x.1, x.2.1, x.2.2.1, x.2.2.2⟩ pc = true) (h0 : x.2.2.2 ≠ 0) (hlink : Cond.classLink RL x.2.2.2 E ∈ allW) (hcast : Cond.castable E E ∈ dcW) (hce : H[q9]? = some ce) (hcv : ce.vm = .none) (hcl : s.vm.findClass E = some ce.cls)
    (kk : W p l e R s m args below meth c H locs cells slots Q (F0 m x.2.2.1 ls [.ref q9])) : vx_W p l e R s m args below meth c H locs cells slots Q (F0 m pc ls rest) q9 :=
  vx_catch (own := RL) (name := E) B.1.2.2.2.1 [] ⟨x.1, x.2.1, x.2.2.1, x.2.2.2⟩ (tableOf hs) B.2.2.1 (fun z hz => nomatch hz) hx h0 (B.1.2.2.2.2.1 _ hlink) (B.2.1.1.use _ hcast) hce hcv hcl kk
theorem kC2 {E nm : String} {q9 : Addr} {ce : Cell} {x x1 : Nat × Nat × Nat × Nat} {hs : List (Nat × Nat × Nat × Nat)} (B : wB p s m args meth c cc nL (x1 :: x :: hs) G cL) (h10 : x1.2.2.2 ≠ 0) (hl1 : Cond.classLink RL x1.2.2.2 nm ∈ allW) (hN : va_Nc E nm s) (hx : covers ⟨x.1, x.2.1, x.2.2.1, x.2.2.2⟩ pc = true) (h0 : x.2.2.2 ≠ 0) (hlink : Cond.classLink RL x.2.2.2 E ∈ allW) (hcast : Cond.castable E E ∈ dcW) (hce : H[q9]? = some ce) (hcv : ce.vm = .none) (hcl : s.vm.findClass E = some ce.cls)
    (kk : W p l e R s m args below meth c H locs cells slots Q (F0 m x.2.2.1 ls [.ref q9])) : vx_W p l e R s m args below meth c H locs cells slots Q (F0 m pc ls rest) q9 :=
  vx_catch (own := RL) (name := E) B.1.2.2.2.1 [⟨x1.1, x1.2.1, x1.2.2.1, x1.2.2.2⟩] ⟨x.1, x.2.1, x.2.2.1, x.2.2.2⟩ (tableOf hs) B.2.2.1 (fun z hz => by
    obtain rfl := List.mem_singleton.mp hz
    exact Or.inr ⟨h10, nm, B.1.2.2.2.2.1 _ hl1, hN⟩) hx h0 (B.1.2.2.2.2.1 _ hlink) (B.2.1.1.use _ hcast) hce hcv hcl kk
theorem w_last {x : Int64} (B : wB p s m args meth c cc nL hh G cL) (hO : oM G cL a f H) (hS : wS G a s.heap H locs) (hdg : decode cc pc = .ok (.lastore, 1))
    (kk : ∀ (f1 : Nat → Int64) (H1 : Heap) (locs1 : List Loc), f1 0 = x → oM G cL a f1 H1 → wS G a s.heap H1 locs1 → W p l e R s m args below meth c H1 locs1 cells slots Q (F0 m (pc + 1) ls rest)) : W p l e R s m args below meth c H locs cells slots Q (F0 m pc ls (.long x :: .int 0 :: .ref a :: rest)) := by
  have X := B.1
  exact va_last (D := G.1) (n := 1) (f := f) X.1 X.2.1 B.2.2.2.2.2.1 hO oD hS 0 0 rfl rfl (vp_in_nI (n := 0) (by decide) (by decide)) hdg (fun H1 locs1 hP1 _ hS1 => kk _ H1 locs1 (by simp [vp_updL]) hP1 hS1)
theorem rW {r k : Int32} {v : Int64} {k1 n1 : Nat} (hP : r = k ∧ (k = 0 → f 0 = v)) (B : wB p s m args meth c cc nL hh G cL) (hO : oM G cL a f H) (hS : wS G a s.heap H locs) (hdg : decode cc pc = .ok (.ireturn, 1)) : W p l e R s m args below meth c H locs k1 n1 (MQ below (wQ G cL a s.heap.size k v) args s k1 n1 (wA G a s.heap.size)) (F0 m pc ls [.int r]) :=
  W.iret B.1.1 B.1.2.1 B.2.2.2.2.2.2.2 (fun t ht hW => ⟨⟨r, f, rfl, hP, by show oM G cL a f t.heap; rw [ht]; exact hO⟩, hS.F ht⟩) hS.2.2 hdg B.2.2.2.1
end RW9
theorem ca_IAE : Cond.castable nIAE nIAE ∈ dcW := dcW_in (tb_in 360 (by decide +kernel)) rfl
theorem ca_ISE : Cond.castable nISE nISE ∈ dcW := dcW_in (tb_in 429 (by decide +kernel)) rfl
theorem ca_IOO : Cond.castable nIOO nIOO ∈ dcW := dcW_in (tb_in 457 (by decide +kernel)) rfl
theorem nu0_gd : gdF nu0 1 0 = 0 := by decide +kernel
theorem nu0_to : gdF nu0 1 0 + feF nu0 0 (gdF nu0 1 0) = 0 := by decide +kernel
set_option maxHeartbeats 4000000 in
set_option maxRecDepth 100000 in
theorem w_L_setPrice {l : Launch} (hlt : l.stackTraces = false) {G : dG} {cL : ClassId} {ao : Nat} (ha : G.2.2 + 90 ≤ ao) {a b : Int32}  : wMet l yL_setPrice cL_setPrice 5 [(0, 10, 13, 20), (0, 10, 17, 13)] 1 G cL ao [.ref (ra G 0), .int a, .int b, .ref ao] 1 ((0 : Int32).toInt64) := by
  refine wMet_of (by decide +kernel) rfl (Nat.le_of_ble_eq_true rfl) ?_
  intro p e s m args below meth c ls f B hM hO hl
  have X := B.1
  have hS : wS G ao s.heap s.heap [] := va_S.rf
  refine lv_aload_n X.1 X.2.1 dL_setPrice_0 rfl (lv_at hl 3 rfl) ?_
  refine lv_iconst (v := 0) X.1 X.2.1 dL_setPrice_1 (by decide) ?_
  refine lv_aload_n X.1 X.2.1 dL_setPrice_2 rfl (lv_at hl 0 rfl) ?_
  refine lv_iload_n X.1 X.2.1 dL_setPrice_3 rfl (lv_at hl 1 rfl) ?_
  refine lv_iload_n X.1 X.2.1 dL_setPrice_4 rfl (lv_at hl 2 rfl) ?_
  refine kWX (As := [_, _]) B ha hM hO hS hl.1 (x_X5_setPrice hlt) rfl kl_L_17 mf_X5_setPrice ⟨Nat.le_of_ble_eq_true rfl, Nat.le_of_ble_eq_true rfl⟩ ⟨Nat.le_of_ble_eq_true rfl, Nat.le_of_ble_eq_true rfl⟩ rfl (Nat.le_of_ble_eq_true rfl) dL_setPrice_5 (fun ce q9 H locs hO hS hce hcv hcl => ?_)
  refine kC1 B (by decide) (by decide) kc_L_20 ca_IOO hce hcv hcl ?_
  refine lv_astore X.1 X.2.1 dL_setPrice_13 hl (by decide) rfl (fun ls hl => ?_)
  replace hl : lv_has ls 5 [(4, _), (0, _), (1, _), (2, _), (3, _)] := hl
  refine lv_iconst (v := 1) X.1 X.2.1 dL_setPrice_15 (by decide) ?_
  exact rW ⟨rfl, fun h => absurd h (by decide)⟩ B hO hS dL_setPrice_16

set_option maxHeartbeats 4000000 in
set_option maxRecDepth 100000 in
theorem w_L_put {l : Launch} (hlt : l.stackTraces = false) {G : dG} {cL : ClassId} {ao : Nat} (ha : G.2.2 + 90 ≤ ao) {a b : Int32}  : wMet l yL_put cL_put 5 [(0, 10, 13, 20), (0, 10, 17, 13)] 1 G cL ao [.ref (ra G 0), .int a, .int b, .ref ao] 1 ((0 : Int32).toInt64) := by
  refine wMet_of (by decide +kernel) rfl (Nat.le_of_ble_eq_true rfl) ?_
  intro p e s m args below meth c ls f B hM hO hl
  have X := B.1
  have hS : wS G ao s.heap s.heap [] := va_S.rf
  refine lv_aload_n X.1 X.2.1 dL_put_0 rfl (lv_at hl 3 rfl) ?_
  refine lv_iconst (v := 0) X.1 X.2.1 dL_put_1 (by decide) ?_
  refine lv_aload_n X.1 X.2.1 dL_put_2 rfl (lv_at hl 0 rfl) ?_
  refine lv_iload_n X.1 X.2.1 dL_put_3 rfl (lv_at hl 1 rfl) ?_
  refine lv_iload_n X.1 X.2.1 dL_put_4 rfl (lv_at hl 2 rfl) ?_
  refine kWX (As := [_, _]) B ha hM hO hS hl.1 (x_X5_put hlt) rfl kl_L_22 mf_X5_put ⟨Nat.le_of_ble_eq_true rfl, Nat.le_of_ble_eq_true rfl⟩ ⟨Nat.le_of_ble_eq_true rfl, Nat.le_of_ble_eq_true rfl⟩ rfl (Nat.le_of_ble_eq_true rfl) dL_put_5 (fun ce q9 H locs hO hS hce hcv hcl => ?_)
  refine kC1 B (by decide) (by decide) kc_L_20 ca_IOO hce hcv hcl ?_
  refine lv_astore X.1 X.2.1 dL_put_13 hl (by decide) rfl (fun ls hl => ?_)
  replace hl : lv_has ls 5 [(4, _), (0, _), (1, _), (2, _), (3, _)] := hl
  refine lv_iconst (v := 1) X.1 X.2.1 dL_put_15 (by decide) ?_
  exact rW ⟨rfl, fun h => absurd h (by decide)⟩ B hO hS dL_put_16

set_option maxHeartbeats 4000000 in
set_option maxRecDepth 100000 in
theorem w_L_setUses {l : Launch} (hlt : l.stackTraces = false) {G : dG} {cL : ClassId} {ao : Nat} (ha : G.2.2 + 90 ≤ ao) {a b : Int32}  : wMet l yL_setUses cL_setUses 5 [(0, 10, 13, 20), (0, 10, 17, 13)] 1 G cL ao [.ref (ra G 0), .int a, .int b, .ref ao] 1 ((0 : Int32).toInt64) := by
  refine wMet_of (by decide +kernel) rfl (Nat.le_of_ble_eq_true rfl) ?_
  intro p e s m args below meth c ls f B hM hO hl
  have X := B.1
  have hS : wS G ao s.heap s.heap [] := va_S.rf
  refine lv_aload_n X.1 X.2.1 dL_setUses_0 rfl (lv_at hl 3 rfl) ?_
  refine lv_iconst (v := 0) X.1 X.2.1 dL_setUses_1 (by decide) ?_
  refine lv_aload_n X.1 X.2.1 dL_setUses_2 rfl (lv_at hl 0 rfl) ?_
  refine lv_iload_n X.1 X.2.1 dL_setUses_3 rfl (lv_at hl 1 rfl) ?_
  refine lv_iload_n X.1 X.2.1 dL_setUses_4 rfl (lv_at hl 2 rfl) ?_
  refine kWX (As := [_, _]) B ha hM hO hS hl.1 (x_X5_setUses hlt) rfl kl_L_32 mf_X5_setUses ⟨Nat.le_of_ble_eq_true rfl, Nat.le_of_ble_eq_true rfl⟩ ⟨Nat.le_of_ble_eq_true rfl, Nat.le_of_ble_eq_true rfl⟩ rfl (Nat.le_of_ble_eq_true rfl) dL_setUses_5 (fun ce q9 H locs hO hS hce hcv hcl => ?_)
  refine kC1 B (by decide) (by decide) kc_L_20 ca_IOO hce hcv hcl ?_
  refine lv_astore X.1 X.2.1 dL_setUses_13 hl (by decide) rfl (fun ls hl => ?_)
  replace hl : lv_has ls 5 [(4, _), (0, _), (1, _), (2, _), (3, _)] := hl
  refine lv_iconst (v := 1) X.1 X.2.1 dL_setUses_15 (by decide) ?_
  exact rW ⟨rfl, fun h => absurd h (by decide)⟩ B hO hS dL_setUses_16

set_option maxHeartbeats 4000000 in
set_option maxRecDepth 100000 in
theorem w_L_matching {l : Launch} (hlt : l.stackTraces = false) {G : dG} {cL : ClassId} {ao : Nat} (ha : G.2.2 + 90 ≤ ao) {a : Int32}  : wMet l yL_matching cL_matching 4 [(0, 9, 12, 20)] 1 G cL ao [.ref (ra G 0), .int a, .ref ao] 1 ((0 : Int32).toInt64) := by
  refine wMet_of (by decide +kernel) rfl (Nat.le_of_ble_eq_true rfl) ?_
  intro p e s m args below meth c ls f B hM hO hl
  have X := B.1
  have hS : wS G ao s.heap s.heap [] := va_S.rf
  refine lv_aload_n X.1 X.2.1 dL_matching_0 rfl (lv_at hl 2 rfl) ?_
  refine lv_iconst (v := 0) X.1 X.2.1 dL_matching_1 (by decide) ?_
  refine lv_aload_n X.1 X.2.1 dL_matching_2 rfl (lv_at hl 0 rfl) ?_
  refine lv_iload_n X.1 X.2.1 dL_matching_3 rfl (lv_at hl 1 rfl) ?_
  refine kWX (As := [_]) B ha hM hO hS hl.1 (x_X5_matching hlt) rfl kl_L_35 mf_X5_matching ⟨Nat.le_of_ble_eq_true rfl, Nat.le_of_ble_eq_true rfl⟩ ⟨Nat.le_of_ble_eq_true rfl, Nat.le_of_ble_eq_true rfl⟩ rfl (Nat.le_of_ble_eq_true rfl) dL_matching_4 (fun ce q9 H locs hO hS hce hcv hcl => ?_)
  refine kC1 B (by decide) (by decide) kc_L_20 ca_IOO hce hcv hcl ?_
  refine lv_astore_n X.1 X.2.1 dL_matching_12 rfl hl (by decide) rfl (fun ls hl => ?_)
  replace hl : lv_has ls 4 [(3, _), (0, _), (1, _), (2, _)] := hl
  refine lv_iconst (v := 1) X.1 X.2.1 dL_matching_13 (by decide) ?_
  exact rW ⟨rfl, fun h => absurd h (by decide)⟩ B hO hS dL_matching_14

set_option maxHeartbeats 4000000 in
set_option maxRecDepth 100000 in
theorem w_L_fits {l : Launch} (hlt : l.stackTraces = false) {G : dG} {cL : ClassId} {ao : Nat} (ha : G.2.2 + 90 ≤ ao) {a : Int32}  : wMet l yL_fits cL_fits 4 [(0, 16, 19, 20)] 1 G cL ao [.ref (ra G 0), .int a, .ref ao] 1 ((0 : Int32).toInt64) := by
  refine wMet_of (by decide +kernel) rfl (Nat.le_of_ble_eq_true rfl) ?_
  intro p e s m args below meth c ls f B hM hO hl
  have X := B.1
  have hS : wS G ao s.heap s.heap [] := va_S.rf
  refine lv_aload_n X.1 X.2.1 dL_fits_0 rfl (lv_at hl 2 rfl) ?_
  refine lv_iconst (v := 0) X.1 X.2.1 dL_fits_1 (by decide) ?_
  refine lv_aload_n X.1 X.2.1 dL_fits_2 rfl (lv_at hl 0 rfl) ?_
  refine lv_iload_n X.1 X.2.1 dL_fits_3 rfl (lv_at hl 1 rfl) ?_
  refine kWX (As := [_]) B ha hM hO hS hl.1 (x_X5_fits hlt) rfl kl_L_39 mf_X5_fits ⟨Nat.le_of_ble_eq_true rfl, Nat.le_of_ble_eq_true rfl⟩ ⟨Nat.le_of_ble_eq_true rfl, Nat.le_of_ble_eq_true rfl⟩ rfl (Nat.le_of_ble_eq_true rfl) dL_fits_4 (fun ce q9 H locs hO hS hce hcv hcl => ?_)
  refine kC1 B (by decide) (by decide) kc_L_20 ca_IOO hce hcv hcl ?_
  refine lv_astore_n X.1 X.2.1 dL_fits_19 rfl hl (by decide) rfl (fun ls hl => ?_)
  replace hl : lv_has ls 4 [(3, _), (0, _), (1, _), (2, _)] := hl
  refine lv_iconst (v := 1) X.1 X.2.1 dL_fits_20 (by decide) ?_
  exact rW ⟨rfl, fun h => absurd h (by decide)⟩ B hO hS dL_fits_21

set_option maxHeartbeats 4000000 in
set_option maxRecDepth 100000 in
theorem w_L_missing {l : Launch} (hlt : l.stackTraces = false) {G : dG} {cL : ClassId} {ao : Nat} (ha : G.2.2 + 90 ≤ ao) {a : Int32}  : wMet l yL_missing cL_missing 4 [(0, 9, 12, 20)] 1 G cL ao [.ref (ra G 0), .int a, .ref ao] 1 ((0 : Int32).toInt64) := by
  refine wMet_of (by decide +kernel) rfl (Nat.le_of_ble_eq_true rfl) ?_
  intro p e s m args below meth c ls f B hM hO hl
  have X := B.1
  have hS : wS G ao s.heap s.heap [] := va_S.rf
  refine lv_aload_n X.1 X.2.1 dL_missing_0 rfl (lv_at hl 2 rfl) ?_
  refine lv_iconst (v := 0) X.1 X.2.1 dL_missing_1 (by decide) ?_
  refine lv_aload_n X.1 X.2.1 dL_missing_2 rfl (lv_at hl 0 rfl) ?_
  refine lv_iload_n X.1 X.2.1 dL_missing_3 rfl (lv_at hl 1 rfl) ?_
  refine kWX (As := [_]) B ha hM hO hS hl.1 (x_X5_missing hlt) rfl kl_L_43 mf_X5_missing ⟨Nat.le_of_ble_eq_true rfl, Nat.le_of_ble_eq_true rfl⟩ ⟨Nat.le_of_ble_eq_true rfl, Nat.le_of_ble_eq_true rfl⟩ rfl (Nat.le_of_ble_eq_true rfl) dL_missing_4 (fun ce q9 H locs hO hS hce hcv hcl => ?_)
  refine kC1 B (by decide) (by decide) kc_L_20 ca_IOO hce hcv hcl ?_
  refine lv_astore_n X.1 X.2.1 dL_missing_12 rfl hl (by decide) rfl (fun ls hl => ?_)
  replace hl : lv_has ls 4 [(3, _), (0, _), (1, _), (2, _)] := hl
  refine lv_iconst (v := 1) X.1 X.2.1 dL_missing_13 (by decide) ?_
  exact rW ⟨rfl, fun h => absurd h (by decide)⟩ B hO hS dL_missing_14

set_option maxHeartbeats 4000000 in
set_option maxRecDepth 100000 in
theorem w_L_worth {l : Launch} (hlt : l.stackTraces = false) {G : dG} {cL : ClassId} {ao : Nat} (ha : G.2.2 + 90 ≤ ao) {a : Int32}  : wMet l yL_worth cL_worth 4 [(0, 9, 12, 20)] 1 G cL ao [.ref (ra G 0), .int a, .ref ao] 1 ((0 : Int32).toInt64) := by
  refine wMet_of (by decide +kernel) rfl (Nat.le_of_ble_eq_true rfl) ?_
  intro p e s m args below meth c ls f B hM hO hl
  have X := B.1
  have hS : wS G ao s.heap s.heap [] := va_S.rf
  refine lv_aload_n X.1 X.2.1 dL_worth_0 rfl (lv_at hl 2 rfl) ?_
  refine lv_iconst (v := 0) X.1 X.2.1 dL_worth_1 (by decide) ?_
  refine lv_aload_n X.1 X.2.1 dL_worth_2 rfl (lv_at hl 0 rfl) ?_
  refine lv_iload_n X.1 X.2.1 dL_worth_3 rfl (lv_at hl 1 rfl) ?_
  refine kWX (As := [_]) B ha hM hO hS hl.1 (x_X5_worth hlt) rfl kl_L_58 mf_X5_worth ⟨Nat.le_of_ble_eq_true rfl, Nat.le_of_ble_eq_true rfl⟩ ⟨Nat.le_of_ble_eq_true rfl, Nat.le_of_ble_eq_true rfl⟩ rfl (Nat.le_of_ble_eq_true rfl) dL_worth_4 (fun ce q9 H locs hO hS hce hcv hcl => ?_)
  refine kC1 B (by decide) (by decide) kc_L_20 ca_IOO hce hcv hcl ?_
  refine lv_astore_n X.1 X.2.1 dL_worth_12 rfl hl (by decide) rfl (fun ls hl => ?_)
  replace hl : lv_has ls 4 [(3, _), (0, _), (1, _), (2, _)] := hl
  refine lv_iconst (v := 1) X.1 X.2.1 dL_worth_13 (by decide) ?_
  exact rW ⟨rfl, fun h => absurd h (by decide)⟩ B hO hS dL_worth_14

set_option maxHeartbeats 4000000 in
set_option maxRecDepth 100000 in
theorem w_L_giveBack {l : Launch} (hlt : l.stackTraces = false) {G : dG} {cL : ClassId} {ao : Nat} (ha : G.2.2 + 90 ≤ ao) {a b c1 : Int32}  : wMet l yL_giveBack cL_giveBack 6 [(0, 12, 15, 20), (0, 12, 19, 13)] 1 G cL ao [.ref (ra G 0), .int a, .int b, .int c1, .ref ao] 1 ((0 : Int32).toInt64) := by
  refine wMet_of (by decide +kernel) rfl (Nat.le_of_ble_eq_true rfl) ?_
  intro p e s m args below meth c ls f B hM hO hl
  have X := B.1
  have hS : wS G ao s.heap s.heap [] := va_S.rf
  refine lv_aload X.1 X.2.1 dL_giveBack_0 (lv_at hl 4 rfl) ?_
  refine lv_iconst (v := 0) X.1 X.2.1 dL_giveBack_2 (by decide) ?_
  refine lv_aload_n X.1 X.2.1 dL_giveBack_3 rfl (lv_at hl 0 rfl) ?_
  refine lv_iload_n X.1 X.2.1 dL_giveBack_4 rfl (lv_at hl 1 rfl) ?_
  refine lv_iload_n X.1 X.2.1 dL_giveBack_5 rfl (lv_at hl 2 rfl) ?_
  refine lv_iload_n X.1 X.2.1 dL_giveBack_6 rfl (lv_at hl 3 rfl) ?_
  refine kWX (As := [_, _, _]) B ha hM hO hS hl.1 (x_X5_giveBack hlt) rfl kl_L_64 mf_X5_giveBack ⟨Nat.le_of_ble_eq_true rfl, Nat.le_of_ble_eq_true rfl⟩ ⟨Nat.le_of_ble_eq_true rfl, Nat.le_of_ble_eq_true rfl⟩ rfl (Nat.le_of_ble_eq_true rfl) dL_giveBack_7 (fun ce q9 H locs hO hS hce hcv hcl => ?_)
  refine kC1 B (by decide) (by decide) kc_L_20 ca_IOO hce hcv hcl ?_
  refine lv_astore X.1 X.2.1 dL_giveBack_15 hl (by decide) rfl (fun ls hl => ?_)
  replace hl : lv_has ls 6 [(5, _), (0, _), (1, _), (2, _), (3, _), (4, _)] := hl
  refine lv_iconst (v := 1) X.1 X.2.1 dL_giveBack_17 (by decide) ?_
  exact rW ⟨rfl, fun h => absurd h (by decide)⟩ B hO hS dL_giveBack_18

set_option maxHeartbeats 4000000 in
set_option maxRecDepth 100000 in
theorem w_L_order {l : Launch} (hlt : l.stackTraces = false) {G : dG} {cL : ClassId} {ao : Nat} (ha : G.2.2 + 90 ≤ ao) {a b : Int32}  : wMet l yL_order cL_order 5 [(0, 10, 13, 20)] 1 G cL ao [.ref (ra G 0), .int a, .int b, .ref ao] 1 ((0 : Int32).toInt64) := by
  refine wMet_of (by decide +kernel) rfl (Nat.le_of_ble_eq_true rfl) ?_
  intro p e s m args below meth c ls f B hM hO hl
  have X := B.1
  have hS : wS G ao s.heap s.heap [] := va_S.rf
  refine lv_aload_n X.1 X.2.1 dL_order_0 rfl (lv_at hl 3 rfl) ?_
  refine lv_iconst (v := 0) X.1 X.2.1 dL_order_1 (by decide) ?_
  refine lv_aload_n X.1 X.2.1 dL_order_2 rfl (lv_at hl 0 rfl) ?_
  refine lv_iload_n X.1 X.2.1 dL_order_3 rfl (lv_at hl 1 rfl) ?_
  refine lv_iload_n X.1 X.2.1 dL_order_4 rfl (lv_at hl 2 rfl) ?_
  refine kWX (As := [_, _]) B ha hM hO hS hl.1 (x_X5_order hlt) rfl kl_L_68 mf_X5_order ⟨Nat.le_of_ble_eq_true rfl, Nat.le_of_ble_eq_true rfl⟩ ⟨Nat.le_of_ble_eq_true rfl, Nat.le_of_ble_eq_true rfl⟩ rfl (Nat.le_of_ble_eq_true rfl) dL_order_5 (fun ce q9 H locs hO hS hce hcv hcl => ?_)
  refine kC1 B (by decide) (by decide) kc_L_20 ca_IOO hce hcv hcl ?_
  refine lv_astore X.1 X.2.1 dL_order_13 hl (by decide) rfl (fun ls hl => ?_)
  replace hl : lv_has ls 5 [(4, _), (0, _), (1, _), (2, _), (3, _)] := hl
  refine lv_iconst (v := 1) X.1 X.2.1 dL_order_15 (by decide) ?_
  exact rW ⟨rfl, fun h => absurd h (by decide)⟩ B hO hS dL_order_16

set_option maxHeartbeats 4000000 in
set_option maxRecDepth 100000 in
theorem w_L_pieces {l : Launch} (hlt : l.stackTraces = false) {G : dG} {cL : ClassId} {ao : Nat} (ha : G.2.2 + 90 ≤ ao) {a b : Int32}  : wMet l yL_pieces cL_pieces 5 [(0, 10, 13, 20)] 1 G cL ao [.ref (ra G 0), .int a, .int b, .ref ao] 1 ((0 : Int32).toInt64) := by
  refine wMet_of (by decide +kernel) rfl (Nat.le_of_ble_eq_true rfl) ?_
  intro p e s m args below meth c ls f B hM hO hl
  have X := B.1
  have hS : wS G ao s.heap s.heap [] := va_S.rf
  refine lv_aload_n X.1 X.2.1 dL_pieces_0 rfl (lv_at hl 3 rfl) ?_
  refine lv_iconst (v := 0) X.1 X.2.1 dL_pieces_1 (by decide) ?_
  refine lv_aload_n X.1 X.2.1 dL_pieces_2 rfl (lv_at hl 0 rfl) ?_
  refine lv_iload_n X.1 X.2.1 dL_pieces_3 rfl (lv_at hl 1 rfl) ?_
  refine lv_iload_n X.1 X.2.1 dL_pieces_4 rfl (lv_at hl 2 rfl) ?_
  refine kWX (As := [_, _]) B ha hM hO hS hl.1 (x_X5_pieces hlt) rfl kl_L_71 mf_X5_pieces ⟨Nat.le_of_ble_eq_true rfl, Nat.le_of_ble_eq_true rfl⟩ ⟨Nat.le_of_ble_eq_true rfl, Nat.le_of_ble_eq_true rfl⟩ rfl (Nat.le_of_ble_eq_true rfl) dL_pieces_5 (fun ce q9 H locs hO hS hce hcv hcl => ?_)
  refine kC1 B (by decide) (by decide) kc_L_20 ca_IOO hce hcv hcl ?_
  refine lv_astore X.1 X.2.1 dL_pieces_13 hl (by decide) rfl (fun ls hl => ?_)
  replace hl : lv_has ls 5 [(4, _), (0, _), (1, _), (2, _), (3, _)] := hl
  refine lv_iconst (v := 1) X.1 X.2.1 dL_pieces_15 (by decide) ?_
  exact rW ⟨rfl, fun h => absurd h (by decide)⟩ B hO hS dL_pieces_16

set_option maxHeartbeats 4000000 in
set_option maxRecDepth 100000 in
theorem w1_L_addArticle {l : Launch} (hlt : l.stackTraces = false) {G : dG} {cL : ClassId} {ao : Nat} (ha : G.2.2 + 90 ≤ ao) {a b : Int32} (ha1 : inR a 1 10000 = false) : wMet l yL_addArticle cL_addArticle 5 [(0, 10, 13, 13), (0, 10, 17, 15)] 1 G cL ao [.ref (ra G 0), .int a, .int b, .ref ao] 1 ((0 : Int32).toInt64) := by
  refine wMet_of (by decide +kernel) rfl (Nat.le_of_ble_eq_true rfl) ?_
  intro p e s m args below meth c ls f B hM hO hl
  have X := B.1
  have hS : wS G ao s.heap s.heap [] := va_S.rf
  refine lv_aload_n X.1 X.2.1 dL_addArticle_0 rfl (lv_at hl 3 rfl) ?_
  refine lv_iconst (v := 0) X.1 X.2.1 dL_addArticle_1 (by decide) ?_
  refine lv_aload_n X.1 X.2.1 dL_addArticle_2 rfl (lv_at hl 0 rfl) ?_
  refine lv_iload_n X.1 X.2.1 dL_addArticle_3 rfl (lv_at hl 1 rfl) ?_
  refine lv_iload_n X.1 X.2.1 dL_addArticle_4 rfl (lv_at hl 2 rfl) ?_
  refine kWX (As := [_, _]) B ha hM hO hS hl.1 (x_X5_addArticle1 hlt ha1) rfl kl_L_7 mf_X5_addArticle ⟨Nat.le_of_ble_eq_true rfl, Nat.le_of_ble_eq_true rfl⟩ ⟨Nat.le_of_ble_eq_true rfl, Nat.le_of_ble_eq_true rfl⟩ rfl (Nat.le_of_ble_eq_true rfl) dL_addArticle_5 (fun ce q9 H locs hO hS hce hcv hcl => ?_)
  refine kC1 B (by decide) (by decide) kc_L_13 ca_IAE hce hcv hcl ?_
  refine lv_astore X.1 X.2.1 dL_addArticle_13 hl (by decide) rfl (fun ls hl => ?_)
  replace hl : lv_has ls 5 [(4, _), (0, _), (1, _), (2, _), (3, _)] := hl
  refine lv_iconst (v := 1) X.1 X.2.1 dL_addArticle_15 (by decide) ?_
  exact rW ⟨rfl, fun h => absurd h (by decide)⟩ B hO hS dL_addArticle_16

set_option maxHeartbeats 4000000 in
set_option maxRecDepth 100000 in
theorem w2_L_addArticle {l : Launch} (hlt : l.stackTraces = false) {G : dG} {cL : ClassId} {ao : Nat} (ha : G.2.2 + 90 ≤ ao) {a : Nat} {b : Int32} (h1 : 1 ≤ a) (h2 : a ≤ 10000) (hb : inR b 0 7 = false) : wMet l yL_addArticle cL_addArticle 5 [(0, 10, 13, 13), (0, 10, 17, 15)] 1 G cL ao [.ref (ra G 0), .int (nI a), .int b, .ref ao] 1 ((0 : Int32).toInt64) := by
  refine wMet_of (by decide +kernel) rfl (Nat.le_of_ble_eq_true rfl) ?_
  intro p e s m args below meth c ls f B hM hO hl
  have X := B.1
  have hS : wS G ao s.heap s.heap [] := va_S.rf
  refine lv_aload_n X.1 X.2.1 dL_addArticle_0 rfl (lv_at hl 3 rfl) ?_
  refine lv_iconst (v := 0) X.1 X.2.1 dL_addArticle_1 (by decide) ?_
  refine lv_aload_n X.1 X.2.1 dL_addArticle_2 rfl (lv_at hl 0 rfl) ?_
  refine lv_iload_n X.1 X.2.1 dL_addArticle_3 rfl (lv_at hl 1 rfl) ?_
  refine lv_iload_n X.1 X.2.1 dL_addArticle_4 rfl (lv_at hl 2 rfl) ?_
  refine kWX (As := [_, _]) B ha hM hO hS hl.1 (x_X5_addArticle2 hlt h1 h2 hb) rfl kl_L_7 mf_X5_addArticle ⟨Nat.le_of_ble_eq_true rfl, Nat.le_of_ble_eq_true rfl⟩ ⟨Nat.le_of_ble_eq_true rfl, Nat.le_of_ble_eq_true rfl⟩ rfl (Nat.le_of_ble_eq_true rfl) dL_addArticle_5 (fun ce q9 H locs hO hS hce hcv hcl => ?_)
  refine kC1 B (by decide) (by decide) kc_L_13 ca_IAE hce hcv hcl ?_
  refine lv_astore X.1 X.2.1 dL_addArticle_13 hl (by decide) rfl (fun ls hl => ?_)
  replace hl : lv_has ls 5 [(4, _), (0, _), (1, _), (2, _), (3, _)] := hl
  refine lv_iconst (v := 1) X.1 X.2.1 dL_addArticle_15 (by decide) ?_
  exact rW ⟨rfl, fun h => absurd h (by decide)⟩ B hO hS dL_addArticle_16

set_option maxHeartbeats 4000000 in
set_option maxRecDepth 100000 in
theorem w3_L_addArticle {l : Launch} (hlt : l.stackTraces = false) {G : dG} {cL : ClassId} {ao : Nat} (ha : G.2.2 + 90 ≤ ao) {a b : Nat} (h1 : 1 ≤ a) (h2 : a ≤ 10000) (h3 : b ≤ 7) : wMet l yL_addArticle cL_addArticle 5 [(0, 10, 13, 13), (0, 10, 17, 15)] 1 G cL ao [.ref (ra G 0), .int (nI a), .int (nI b), .ref ao] 0 ((0 : Int32).toInt64) := by
  refine wMet_of (by decide +kernel) rfl (Nat.le_of_ble_eq_true rfl) ?_
  intro p e s m args below meth c ls f B hM hO hl
  have X := B.1
  have hS : wS G ao s.heap s.heap [] := va_S.rf
  refine lv_aload_n X.1 X.2.1 dL_addArticle_0 rfl (lv_at hl 3 rfl) ?_
  refine lv_iconst (v := 0) X.1 X.2.1 dL_addArticle_1 (by decide) ?_
  refine lv_aload_n X.1 X.2.1 dL_addArticle_2 rfl (lv_at hl 0 rfl) ?_
  refine lv_iload_n X.1 X.2.1 dL_addArticle_3 rfl (lv_at hl 1 rfl) ?_
  refine lv_iload_n X.1 X.2.1 dL_addArticle_4 rfl (lv_at hl 2 rfl) ?_
  refine kWI (As := [_, _]) B ha hM hO hS hl.1 (c_X5_addArticle nu0_WD h1 h2 h3 (by decide)) rfl kl_L_7 mf_X5_addArticle ⟨Nat.le_of_ble_eq_true rfl, Nat.le_of_ble_eq_true rfl⟩ ⟨Nat.zero_le _, Nat.zero_le _⟩ rfl (Nat.le_of_ble_eq_true rfl) dL_addArticle_5 (fun r ν H locs hp hO hS => ?_)
  obtain ⟨rfl, -⟩ := hp
  refine r_as (b := 0) (show nI (nu0 0 5) = 0 from rfl) ?_
  refine lv_i2l X.1 X.2.1 dL_addArticle_8 rfl ?_
  refine w_last B hO hS dL_addArticle_9 (fun f H locs hf hO hS => ?_)
  refine lv_goto (tgt := 21) X.1 X.2.1 dL_addArticle_10 (by decide) ?_
  refine lv_iconst (v := 0) X.1 X.2.1 dL_addArticle_21 (by decide) ?_
  refine W.widen (k := 1) (n := 6) (Nat.le_of_ble_eq_true rfl) (Nat.le_of_ble_eq_true rfl) ?_
  exact rW ⟨rfl, fun _ => hf⟩ B hO hS dL_addArticle_22

theorem w_L_addArticle {l : Launch} (hlt : l.stackTraces = false) {G : dG} {cL : ClassId} {ao : Nat} (ha : G.2.2 + 90 ≤ ao) {a b : Int32} : wMet l yL_addArticle cL_addArticle 5 [(0, 10, 13, 13), (0, 10, 17, 15)] 1 G cL ao [.ref (ra G 0), .int a, .int b, .ref ao] (kAA a b) ((0 : Int32).toInt64) := by
  cases h1 : inR a 1 10000
  · rw [show kAA a b = 1 from by simp [kAA, bI, h1]]; exact w1_L_addArticle hlt ha h1
  · cases h2 : inR b 0 7
    · rw [show kAA a b = 1 from by simp [kAA, bI, h2]]; obtain ⟨n, rfl, g1, g2⟩ := inR_nat 1 10000 (by decide) (by decide) h1; exact w2_L_addArticle hlt ha g1 g2 h2
    · rw [show kAA a b = 0 from by simp [kAA, bI, h1, h2]]; obtain ⟨n, rfl, g1, g2⟩ := inR_nat 1 10000 (by decide) (by decide) h1; obtain ⟨k, rfl, -, g3⟩ := inR_nat 0 7 (by decide) (by decide) h2; exact w3_L_addArticle hlt ha g1 g2 g3

set_option maxHeartbeats 4000000 in
set_option maxRecDepth 100000 in
theorem w1_L_setShipping {l : Launch} (hlt : l.stackTraces = false) {G : dG} {cL : ClassId} {ao : Nat} (ha : G.2.2 + 90 ≤ ao) {a b : Int32} (ha1 : inR a 0 10000 = false) : wMet l yL_setShipping cL_setShipping 5 [(0, 10, 13, 13)] 1 G cL ao [.ref (ra G 0), .int a, .int b, .ref ao] 1 ((0 : Int32).toInt64) := by
  refine wMet_of (by decide +kernel) rfl (Nat.le_of_ble_eq_true rfl) ?_
  intro p e s m args below meth c ls f B hM hO hl
  have X := B.1
  have hS : wS G ao s.heap s.heap [] := va_S.rf
  refine lv_aload_n X.1 X.2.1 dL_setShipping_0 rfl (lv_at hl 3 rfl) ?_
  refine lv_iconst (v := 0) X.1 X.2.1 dL_setShipping_1 (by decide) ?_
  refine lv_aload_n X.1 X.2.1 dL_setShipping_2 rfl (lv_at hl 0 rfl) ?_
  refine lv_iload_n X.1 X.2.1 dL_setShipping_3 rfl (lv_at hl 1 rfl) ?_
  refine lv_iload_n X.1 X.2.1 dL_setShipping_4 rfl (lv_at hl 2 rfl) ?_
  refine kWX (As := [_, _]) B ha hM hO hS hl.1 (x_X5_setShipping1 hlt ha1) rfl kl_L_25 mf_X5_setShipping ⟨Nat.le_of_ble_eq_true rfl, Nat.le_of_ble_eq_true rfl⟩ ⟨Nat.le_of_ble_eq_true rfl, Nat.le_of_ble_eq_true rfl⟩ rfl (Nat.le_of_ble_eq_true rfl) dL_setShipping_5 (fun ce q9 H locs hO hS hce hcv hcl => ?_)
  refine kC1 B (by decide) (by decide) kc_L_13 ca_IAE hce hcv hcl ?_
  refine lv_astore X.1 X.2.1 dL_setShipping_13 hl (by decide) rfl (fun ls hl => ?_)
  replace hl : lv_has ls 5 [(4, _), (0, _), (1, _), (2, _), (3, _)] := hl
  refine lv_iconst (v := 1) X.1 X.2.1 dL_setShipping_15 (by decide) ?_
  exact rW ⟨rfl, fun h => absurd h (by decide)⟩ B hO hS dL_setShipping_16

set_option maxHeartbeats 4000000 in
set_option maxRecDepth 100000 in
theorem w2_L_setShipping {l : Launch} (hlt : l.stackTraces = false) {G : dG} {cL : ClassId} {ao : Nat} (ha : G.2.2 + 90 ≤ ao) {a b : Int32} (ha1 : inR a 0 10000 = true) (hb : inR b 0 1000000 = false) : wMet l yL_setShipping cL_setShipping 5 [(0, 10, 13, 13)] 1 G cL ao [.ref (ra G 0), .int a, .int b, .ref ao] 1 ((0 : Int32).toInt64) := by
  refine wMet_of (by decide +kernel) rfl (Nat.le_of_ble_eq_true rfl) ?_
  intro p e s m args below meth c ls f B hM hO hl
  have X := B.1
  have hS : wS G ao s.heap s.heap [] := va_S.rf
  refine lv_aload_n X.1 X.2.1 dL_setShipping_0 rfl (lv_at hl 3 rfl) ?_
  refine lv_iconst (v := 0) X.1 X.2.1 dL_setShipping_1 (by decide) ?_
  refine lv_aload_n X.1 X.2.1 dL_setShipping_2 rfl (lv_at hl 0 rfl) ?_
  refine lv_iload_n X.1 X.2.1 dL_setShipping_3 rfl (lv_at hl 1 rfl) ?_
  refine lv_iload_n X.1 X.2.1 dL_setShipping_4 rfl (lv_at hl 2 rfl) ?_
  refine kWX (As := [_, _]) B ha hM hO hS hl.1 (x_X5_setShipping2 hlt ha1 hb) rfl kl_L_25 mf_X5_setShipping ⟨Nat.le_of_ble_eq_true rfl, Nat.le_of_ble_eq_true rfl⟩ ⟨Nat.le_of_ble_eq_true rfl, Nat.le_of_ble_eq_true rfl⟩ rfl (Nat.le_of_ble_eq_true rfl) dL_setShipping_5 (fun ce q9 H locs hO hS hce hcv hcl => ?_)
  refine kC1 B (by decide) (by decide) kc_L_13 ca_IAE hce hcv hcl ?_
  refine lv_astore X.1 X.2.1 dL_setShipping_13 hl (by decide) rfl (fun ls hl => ?_)
  replace hl : lv_has ls 5 [(4, _), (0, _), (1, _), (2, _), (3, _)] := hl
  refine lv_iconst (v := 1) X.1 X.2.1 dL_setShipping_15 (by decide) ?_
  exact rW ⟨rfl, fun h => absurd h (by decide)⟩ B hO hS dL_setShipping_16

set_option maxHeartbeats 4000000 in
set_option maxRecDepth 100000 in
theorem w3_L_setShipping {l : Launch} (hlt : l.stackTraces = false) {G : dG} {cL : ClassId} {ao : Nat} (ha : G.2.2 + 90 ≤ ao) {a b : Nat} (h1 : a ≤ 10000) (h2 : b ≤ 1000000) : wMet l yL_setShipping cL_setShipping 5 [(0, 10, 13, 13)] 1 G cL ao [.ref (ra G 0), .int (nI a), .int (nI b), .ref ao] 0 ((0 : Int32).toInt64) := by
  refine wMet_of (by decide +kernel) rfl (Nat.le_of_ble_eq_true rfl) ?_
  intro p e s m args below meth c ls f B hM hO hl
  have X := B.1
  have hS : wS G ao s.heap s.heap [] := va_S.rf
  refine lv_aload_n X.1 X.2.1 dL_setShipping_0 rfl (lv_at hl 3 rfl) ?_
  refine lv_iconst (v := 0) X.1 X.2.1 dL_setShipping_1 (by decide) ?_
  refine lv_aload_n X.1 X.2.1 dL_setShipping_2 rfl (lv_at hl 0 rfl) ?_
  refine lv_iload_n X.1 X.2.1 dL_setShipping_3 rfl (lv_at hl 1 rfl) ?_
  refine lv_iload_n X.1 X.2.1 dL_setShipping_4 rfl (lv_at hl 2 rfl) ?_
  refine kWI (As := [_, _]) B ha hM hO hS hl.1 (c_X5_setShipping h1 h2) rfl kl_L_25 mf_X5_setShipping ⟨Nat.le_of_ble_eq_true rfl, Nat.le_of_ble_eq_true rfl⟩ ⟨Nat.zero_le _, Nat.zero_le _⟩ rfl (Nat.le_of_ble_eq_true rfl) dL_setShipping_5 (fun r ν H locs hp hO hS => ?_)
  obtain ⟨rfl, -⟩ := hp
  refine r_as (b := 0) (show nI (nu0 0 8) = 0 from rfl) ?_
  refine lv_i2l X.1 X.2.1 dL_setShipping_8 rfl ?_
  refine w_last B hO hS dL_setShipping_9 (fun f H locs hf hO hS => ?_)
  refine lv_goto (tgt := 17) X.1 X.2.1 dL_setShipping_10 (by decide) ?_
  refine lv_iconst (v := 0) X.1 X.2.1 dL_setShipping_17 (by decide) ?_
  refine W.widen (k := 1) (n := 6) (Nat.le_of_ble_eq_true rfl) (Nat.le_of_ble_eq_true rfl) ?_
  exact rW ⟨rfl, fun _ => hf⟩ B hO hS dL_setShipping_18

theorem w_L_setShipping {l : Launch} (hlt : l.stackTraces = false) {G : dG} {cL : ClassId} {ao : Nat} (ha : G.2.2 + 90 ≤ ao) {a b : Int32} : wMet l yL_setShipping cL_setShipping 5 [(0, 10, 13, 13)] 1 G cL ao [.ref (ra G 0), .int a, .int b, .ref ao] (kSS a b) ((0 : Int32).toInt64) := by
  cases h1 : inR a 0 10000
  · rw [show kSS a b = 1 from by simp [kSS, bI, h1]]; exact w1_L_setShipping hlt ha h1
  · cases h2 : inR b 0 1000000
    · rw [show kSS a b = 1 from by simp [kSS, bI, h2]]; exact w2_L_setShipping hlt ha h1 h2
    · rw [show kSS a b = 0 from by simp [kSS, bI, h1, h2]]; obtain ⟨n, rfl, -, g2⟩ := inR_nat 0 10000 (by decide) (by decide) h1; obtain ⟨k, rfl, -, g3⟩ := inR_nat 0 1000000 (by decide) (by decide) h2; exact w3_L_setShipping hlt ha g2 g3

set_option maxHeartbeats 4000000 in
set_option maxRecDepth 100000 in
theorem w1_L_addCoupon {l : Launch} (hlt : l.stackTraces = false) {G : dG} {cL : ClassId} {ao : Nat} (ha : G.2.2 + 90 ≤ ao) {a b c1 c2 c3 : Int32} (hv : isVal a b = false) : wMet l yL_addCoupon cL_addCoupon 8 [(0, 16, 19, 13), (0, 16, 23, 15)] 1 G cL ao [.ref (ra G 0), .int a, .int b, .int c1, .int c2, .int c3, .ref ao] 1 ((0 : Int32).toInt64) := by
  refine wMet_of (by decide +kernel) rfl (Nat.le_of_ble_eq_true rfl) ?_
  intro p e s m args below meth c ls f B hM hO hl
  have X := B.1
  have hS : wS G ao s.heap s.heap [] := va_S.rf
  refine lv_aload X.1 X.2.1 dL_addCoupon_0 (lv_at hl 6 rfl) ?_
  refine lv_iconst (v := 0) X.1 X.2.1 dL_addCoupon_2 (by decide) ?_
  refine lv_aload_n X.1 X.2.1 dL_addCoupon_3 rfl (lv_at hl 0 rfl) ?_
  refine lv_iload_n X.1 X.2.1 dL_addCoupon_4 rfl (lv_at hl 1 rfl) ?_
  refine lv_iload_n X.1 X.2.1 dL_addCoupon_5 rfl (lv_at hl 2 rfl) ?_
  refine lv_iload_n X.1 X.2.1 dL_addCoupon_6 rfl (lv_at hl 3 rfl) ?_
  refine lv_iload X.1 X.2.1 dL_addCoupon_7 (lv_at hl 4 rfl) ?_
  refine lv_iload X.1 X.2.1 dL_addCoupon_9 (lv_at hl 5 rfl) ?_
  refine kWX (As := [_, _, _, _, _]) B ha hM hO hS hl.1 (x_X5_addCoupon1 hlt hv) rfl kl_L_28 mf_X5_addCoupon ⟨Nat.le_of_ble_eq_true rfl, Nat.le_of_ble_eq_true rfl⟩ ⟨Nat.le_of_ble_eq_true rfl, Nat.le_of_ble_eq_true rfl⟩ rfl (Nat.le_of_ble_eq_true rfl) dL_addCoupon_11 (fun ce q9 H locs hO hS hce hcv hcl => ?_)
  refine kC1 B (by decide) (by decide) kc_L_13 ca_IAE hce hcv hcl ?_
  refine lv_astore X.1 X.2.1 dL_addCoupon_19 hl (by decide) rfl (fun ls hl => ?_)
  replace hl : lv_has ls 8 [(7, _), (0, _), (1, _), (2, _), (3, _), (4, _), (5, _), (6, _)] := hl
  refine lv_iconst (v := 1) X.1 X.2.1 dL_addCoupon_21 (by decide) ?_
  exact rW ⟨rfl, fun h => absurd h (by decide)⟩ B hO hS dL_addCoupon_22

set_option maxHeartbeats 4000000 in
set_option maxRecDepth 100000 in
theorem w2_L_addCoupon {l : Launch} (hlt : l.stackTraces = false) {G : dG} {cL : ClassId} {ao : Nat} (ha : G.2.2 + 90 ≤ ao) {a b c1 c2 c3 : Int32} (hv : isVal a b = true) (h1 : inR c1 1 255 = false) : wMet l yL_addCoupon cL_addCoupon 8 [(0, 16, 19, 13), (0, 16, 23, 15)] 1 G cL ao [.ref (ra G 0), .int a, .int b, .int c1, .int c2, .int c3, .ref ao] 1 ((0 : Int32).toInt64) := by
  refine wMet_of (by decide +kernel) rfl (Nat.le_of_ble_eq_true rfl) ?_
  intro p e s m args below meth c ls f B hM hO hl
  have X := B.1
  have hS : wS G ao s.heap s.heap [] := va_S.rf
  refine lv_aload X.1 X.2.1 dL_addCoupon_0 (lv_at hl 6 rfl) ?_
  refine lv_iconst (v := 0) X.1 X.2.1 dL_addCoupon_2 (by decide) ?_
  refine lv_aload_n X.1 X.2.1 dL_addCoupon_3 rfl (lv_at hl 0 rfl) ?_
  refine lv_iload_n X.1 X.2.1 dL_addCoupon_4 rfl (lv_at hl 1 rfl) ?_
  refine lv_iload_n X.1 X.2.1 dL_addCoupon_5 rfl (lv_at hl 2 rfl) ?_
  refine lv_iload_n X.1 X.2.1 dL_addCoupon_6 rfl (lv_at hl 3 rfl) ?_
  refine lv_iload X.1 X.2.1 dL_addCoupon_7 (lv_at hl 4 rfl) ?_
  refine lv_iload X.1 X.2.1 dL_addCoupon_9 (lv_at hl 5 rfl) ?_
  refine kWX (As := [_, _, _, _, _]) B ha hM hO hS hl.1 (x_X5_addCoupon2 hlt hv h1) rfl kl_L_28 mf_X5_addCoupon ⟨Nat.le_of_ble_eq_true rfl, Nat.le_of_ble_eq_true rfl⟩ ⟨Nat.le_of_ble_eq_true rfl, Nat.le_of_ble_eq_true rfl⟩ rfl (Nat.le_of_ble_eq_true rfl) dL_addCoupon_11 (fun ce q9 H locs hO hS hce hcv hcl => ?_)
  refine kC1 B (by decide) (by decide) kc_L_13 ca_IAE hce hcv hcl ?_
  refine lv_astore X.1 X.2.1 dL_addCoupon_19 hl (by decide) rfl (fun ls hl => ?_)
  replace hl : lv_has ls 8 [(7, _), (0, _), (1, _), (2, _), (3, _), (4, _), (5, _), (6, _)] := hl
  refine lv_iconst (v := 1) X.1 X.2.1 dL_addCoupon_21 (by decide) ?_
  exact rW ⟨rfl, fun h => absurd h (by decide)⟩ B hO hS dL_addCoupon_22

set_option maxHeartbeats 4000000 in
set_option maxRecDepth 100000 in
theorem w3_L_addCoupon {l : Launch} (hlt : l.stackTraces = false) {G : dG} {cL : ClassId} {ao : Nat} (ha : G.2.2 + 90 ≤ ao) {a b c1 c2 c3 : Int32} (hv : isVal a b = true) (h1 : inR c1 1 255 = true) (h2 : inR c2 0 1000000 = false) : wMet l yL_addCoupon cL_addCoupon 8 [(0, 16, 19, 13), (0, 16, 23, 15)] 1 G cL ao [.ref (ra G 0), .int a, .int b, .int c1, .int c2, .int c3, .ref ao] 1 ((0 : Int32).toInt64) := by
  refine wMet_of (by decide +kernel) rfl (Nat.le_of_ble_eq_true rfl) ?_
  intro p e s m args below meth c ls f B hM hO hl
  have X := B.1
  have hS : wS G ao s.heap s.heap [] := va_S.rf
  refine lv_aload X.1 X.2.1 dL_addCoupon_0 (lv_at hl 6 rfl) ?_
  refine lv_iconst (v := 0) X.1 X.2.1 dL_addCoupon_2 (by decide) ?_
  refine lv_aload_n X.1 X.2.1 dL_addCoupon_3 rfl (lv_at hl 0 rfl) ?_
  refine lv_iload_n X.1 X.2.1 dL_addCoupon_4 rfl (lv_at hl 1 rfl) ?_
  refine lv_iload_n X.1 X.2.1 dL_addCoupon_5 rfl (lv_at hl 2 rfl) ?_
  refine lv_iload_n X.1 X.2.1 dL_addCoupon_6 rfl (lv_at hl 3 rfl) ?_
  refine lv_iload X.1 X.2.1 dL_addCoupon_7 (lv_at hl 4 rfl) ?_
  refine lv_iload X.1 X.2.1 dL_addCoupon_9 (lv_at hl 5 rfl) ?_
  refine kWX (As := [_, _, _, _, _]) B ha hM hO hS hl.1 (x_X5_addCoupon3 hlt hv h1 h2) rfl kl_L_28 mf_X5_addCoupon ⟨Nat.le_of_ble_eq_true rfl, Nat.le_of_ble_eq_true rfl⟩ ⟨Nat.le_of_ble_eq_true rfl, Nat.le_of_ble_eq_true rfl⟩ rfl (Nat.le_of_ble_eq_true rfl) dL_addCoupon_11 (fun ce q9 H locs hO hS hce hcv hcl => ?_)
  refine kC1 B (by decide) (by decide) kc_L_13 ca_IAE hce hcv hcl ?_
  refine lv_astore X.1 X.2.1 dL_addCoupon_19 hl (by decide) rfl (fun ls hl => ?_)
  replace hl : lv_has ls 8 [(7, _), (0, _), (1, _), (2, _), (3, _), (4, _), (5, _), (6, _)] := hl
  refine lv_iconst (v := 1) X.1 X.2.1 dL_addCoupon_21 (by decide) ?_
  exact rW ⟨rfl, fun h => absurd h (by decide)⟩ B hO hS dL_addCoupon_22

set_option maxHeartbeats 4000000 in
set_option maxRecDepth 100000 in
theorem w4_L_addCoupon {l : Launch} (hlt : l.stackTraces = false) {G : dG} {cL : ClassId} {ao : Nat} (ha : G.2.2 + 90 ≤ ao) {a b c1 c2 c3 : Int32} (hv : isVal a b = true) (h1 : inR c1 1 255 = true) (h2 : inR c2 0 1000000 = true) (h3 : inR c3 0 3 = false) : wMet l yL_addCoupon cL_addCoupon 8 [(0, 16, 19, 13), (0, 16, 23, 15)] 1 G cL ao [.ref (ra G 0), .int a, .int b, .int c1, .int c2, .int c3, .ref ao] 1 ((0 : Int32).toInt64) := by
  refine wMet_of (by decide +kernel) rfl (Nat.le_of_ble_eq_true rfl) ?_
  intro p e s m args below meth c ls f B hM hO hl
  have X := B.1
  have hS : wS G ao s.heap s.heap [] := va_S.rf
  refine lv_aload X.1 X.2.1 dL_addCoupon_0 (lv_at hl 6 rfl) ?_
  refine lv_iconst (v := 0) X.1 X.2.1 dL_addCoupon_2 (by decide) ?_
  refine lv_aload_n X.1 X.2.1 dL_addCoupon_3 rfl (lv_at hl 0 rfl) ?_
  refine lv_iload_n X.1 X.2.1 dL_addCoupon_4 rfl (lv_at hl 1 rfl) ?_
  refine lv_iload_n X.1 X.2.1 dL_addCoupon_5 rfl (lv_at hl 2 rfl) ?_
  refine lv_iload_n X.1 X.2.1 dL_addCoupon_6 rfl (lv_at hl 3 rfl) ?_
  refine lv_iload X.1 X.2.1 dL_addCoupon_7 (lv_at hl 4 rfl) ?_
  refine lv_iload X.1 X.2.1 dL_addCoupon_9 (lv_at hl 5 rfl) ?_
  refine kWX (As := [_, _, _, _, _]) B ha hM hO hS hl.1 (x_X5_addCoupon4 hlt hv h1 h2 h3) rfl kl_L_28 mf_X5_addCoupon ⟨Nat.le_of_ble_eq_true rfl, Nat.le_of_ble_eq_true rfl⟩ ⟨Nat.le_of_ble_eq_true rfl, Nat.le_of_ble_eq_true rfl⟩ rfl (Nat.le_of_ble_eq_true rfl) dL_addCoupon_11 (fun ce q9 H locs hO hS hce hcv hcl => ?_)
  refine kC1 B (by decide) (by decide) kc_L_13 ca_IAE hce hcv hcl ?_
  refine lv_astore X.1 X.2.1 dL_addCoupon_19 hl (by decide) rfl (fun ls hl => ?_)
  replace hl : lv_has ls 8 [(7, _), (0, _), (1, _), (2, _), (3, _), (4, _), (5, _), (6, _)] := hl
  refine lv_iconst (v := 1) X.1 X.2.1 dL_addCoupon_21 (by decide) ?_
  exact rW ⟨rfl, fun h => absurd h (by decide)⟩ B hO hS dL_addCoupon_22

set_option maxHeartbeats 4000000 in
set_option maxRecDepth 100000 in
theorem w5_L_addCoupon {l : Launch} (hlt : l.stackTraces = false) {G : dG} {cL : ClassId} {ao : Nat} (ha : G.2.2 + 90 ≤ ao) {a b c1 c2 c3 : Nat} (h1 : vk a b) (h2 : 1 ≤ c1) (h3 : c1 ≤ 255) (h4 : c2 ≤ 1000000) (h5 : c3 ≤ 3) : wMet l yL_addCoupon cL_addCoupon 8 [(0, 16, 19, 13), (0, 16, 23, 15)] 1 G cL ao [.ref (ra G 0), .int (nI a), .int (nI b), .int (nI c1), .int (nI c2), .int (nI c3), .ref ao] 0 ((0 : Int32).toInt64) := by
  refine wMet_of (by decide +kernel) rfl (Nat.le_of_ble_eq_true rfl) ?_
  intro p e s m args below meth c ls f B hM hO hl
  have X := B.1
  have hS : wS G ao s.heap s.heap [] := va_S.rf
  refine lv_aload X.1 X.2.1 dL_addCoupon_0 (lv_at hl 6 rfl) ?_
  refine lv_iconst (v := 0) X.1 X.2.1 dL_addCoupon_2 (by decide) ?_
  refine lv_aload_n X.1 X.2.1 dL_addCoupon_3 rfl (lv_at hl 0 rfl) ?_
  refine lv_iload_n X.1 X.2.1 dL_addCoupon_4 rfl (lv_at hl 1 rfl) ?_
  refine lv_iload_n X.1 X.2.1 dL_addCoupon_5 rfl (lv_at hl 2 rfl) ?_
  refine lv_iload_n X.1 X.2.1 dL_addCoupon_6 rfl (lv_at hl 3 rfl) ?_
  refine lv_iload X.1 X.2.1 dL_addCoupon_7 (lv_at hl 4 rfl) ?_
  refine lv_iload X.1 X.2.1 dL_addCoupon_9 (lv_at hl 5 rfl) ?_
  refine kWI (As := [_, _, _, _, _]) B ha hM hO hS hl.1 (c_X5_addCoupon nu0_WD h1 h2 h3 h4 h5 (by decide)) rfl kl_L_28 mf_X5_addCoupon ⟨Nat.le_of_ble_eq_true rfl, Nat.le_of_ble_eq_true rfl⟩ ⟨Nat.zero_le _, Nat.zero_le _⟩ rfl (Nat.le_of_ble_eq_true rfl) dL_addCoupon_11 (fun r ν H locs hp hO hS => ?_)
  obtain ⟨rfl, -⟩ := hp
  refine r_as (b := 0) (show nI (nu0 0 6) = 0 from rfl) ?_
  refine lv_i2l X.1 X.2.1 dL_addCoupon_14 rfl ?_
  refine w_last B hO hS dL_addCoupon_15 (fun f H locs hf hO hS => ?_)
  refine lv_goto (tgt := 27) X.1 X.2.1 dL_addCoupon_16 (by decide) ?_
  refine lv_iconst (v := 0) X.1 X.2.1 dL_addCoupon_27 (by decide) ?_
  refine W.widen (k := 1) (n := 6) (Nat.le_of_ble_eq_true rfl) (Nat.le_of_ble_eq_true rfl) ?_
  exact rW ⟨rfl, fun _ => hf⟩ B hO hS dL_addCoupon_28

theorem w_L_addCoupon {l : Launch} (hlt : l.stackTraces = false) {G : dG} {cL : ClassId} {ao : Nat} (ha : G.2.2 + 90 ≤ ao) {a b c1 c2 c3 : Int32} : wMet l yL_addCoupon cL_addCoupon 8 [(0, 16, 19, 13), (0, 16, 23, 15)] 1 G cL ao [.ref (ra G 0), .int a, .int b, .int c1, .int c2, .int c3, .ref ao] (kAC a b c1 c2 c3) ((0 : Int32).toInt64) := by
  cases hv : isVal a b
  · rw [show kAC a b c1 c2 c3 = 1 from by simp [kAC, bI, hv]]; exact w1_L_addCoupon hlt ha hv
  · cases h1 : inR c1 1 255
    · rw [show kAC a b c1 c2 c3 = 1 from by simp [kAC, bI, h1]]; exact w2_L_addCoupon hlt ha hv h1
    · cases h2 : inR c2 0 1000000
      · rw [show kAC a b c1 c2 c3 = 1 from by simp [kAC, bI, h2]]; exact w3_L_addCoupon hlt ha hv h1 h2
      · cases h3 : inR c3 0 3
        · rw [show kAC a b c1 c2 c3 = 1 from by simp [kAC, bI, h3]]; exact w4_L_addCoupon hlt ha hv h1 h2 h3
        · rw [show kAC a b c1 c2 c3 = 0 from by simp [kAC, bI, hv, h1, h2, h3]]
          obtain ⟨k1, k2, rfl, rfl, g1⟩ := isVal_vk hv
          obtain ⟨k3, rfl, g2, g3⟩ := inR_nat 1 255 (by decide) (by decide) h1
          obtain ⟨k4, rfl, -, g4⟩ := inR_nat 0 1000000 (by decide) (by decide) h2
          obtain ⟨k5, rfl, -, g5⟩ := inR_nat 0 3 (by decide) (by decide) h3
          exact w5_L_addCoupon hlt ha g1 g2 g3 g4 g5

set_option maxHeartbeats 4000000 in
set_option maxRecDepth 100000 in
theorem w1_L_isAllowed {l : Launch} (hlt : l.stackTraces = false) {G : dG} {cL : ClassId} {ao : Nat} (ha : G.2.2 + 90 ≤ ao) {a : Int32} (ha1 : inR a 0 0 = false) : wMet l yL_isAllowed cL_isAllowed 4 [(0, 16, 19, 13)] 4 G cL ao [.ref (ra G 0), .int a, .ref ao] 1 (1) := by
  refine wMet_of (by decide +kernel) rfl (Nat.le_of_ble_eq_true rfl) ?_
  intro p e s m args below meth c ls f B hM hO hl
  have X := B.1
  have hS : wS G ao s.heap s.heap [] := va_S.rf
  refine lv_aload_n X.1 X.2.1 dL_isAllowed_0 rfl (lv_at hl 2 rfl) ?_
  refine lv_iconst (v := 0) X.1 X.2.1 dL_isAllowed_1 (by decide) ?_
  refine lv_aload_n X.1 X.2.1 dL_isAllowed_2 rfl (lv_at hl 0 rfl) ?_
  refine lv_iload_n X.1 X.2.1 dL_isAllowed_3 rfl (lv_at hl 1 rfl) ?_
  refine kWX (As := [_]) B ha hM hO hS hl.1 (x_X5_isAllowed hlt ha1) rfl kl_L_46 mf_X5_isAllowed ⟨Nat.le_of_ble_eq_true rfl, Nat.le_of_ble_eq_true rfl⟩ ⟨Nat.le_of_ble_eq_true rfl, Nat.le_of_ble_eq_true rfl⟩ rfl (Nat.le_of_ble_eq_true rfl) dL_isAllowed_4 (fun ce q9 H locs hO hS hce hcv hcl => ?_)
  refine kC1 B (by decide) (by decide) kc_L_13 ca_IAE hce hcv hcl ?_
  refine lv_astore_n X.1 X.2.1 dL_isAllowed_19 rfl hl (by decide) rfl (fun ls hl => ?_)
  replace hl : lv_has ls 4 [(3, _), (0, _), (1, _), (2, _)] := hl
  refine lv_iconst (v := 1) X.1 X.2.1 dL_isAllowed_20 (by decide) ?_
  exact rW ⟨rfl, fun h => absurd h (by decide)⟩ B hO hS dL_isAllowed_21

set_option maxHeartbeats 4000000 in
set_option maxRecDepth 100000 in
theorem w2_L_isAllowed {l : Launch} (hlt : l.stackTraces = false) {G : dG} {cL : ClassId} {ao : Nat} (ha : G.2.2 + 90 ≤ ao)   : wMet l yL_isAllowed cL_isAllowed 4 [(0, 16, 19, 13)] 4 G cL ao [.ref (ra G 0), .int (nI 0), .ref ao] 0 (1) := by
  refine wMet_of (by decide +kernel) rfl (Nat.le_of_ble_eq_true rfl) ?_
  intro p e s m args below meth c ls f B hM hO hl
  have X := B.1
  have hS : wS G ao s.heap s.heap [] := va_S.rf
  refine lv_aload_n X.1 X.2.1 dL_isAllowed_0 rfl (lv_at hl 2 rfl) ?_
  refine lv_iconst (v := 0) X.1 X.2.1 dL_isAllowed_1 (by decide) ?_
  refine lv_aload_n X.1 X.2.1 dL_isAllowed_2 rfl (lv_at hl 0 rfl) ?_
  refine lv_iload_n X.1 X.2.1 dL_isAllowed_3 rfl (lv_at hl 1 rfl) ?_
  refine kWI (As := [_]) B ha hM hO hS hl.1 (c_X5_isAllowed (st := 0) nu0_WD (by decide)) rfl kl_L_46 mf_X5_isAllowed ⟨Nat.le_of_ble_eq_true rfl, Nat.le_of_ble_eq_true rfl⟩ ⟨Nat.zero_le _, Nat.zero_le _⟩ rfl (Nat.le_of_ble_eq_true rfl) dL_isAllowed_4 (fun r ν H locs hp hO hS => ?_)
  obtain ⟨rfl, -⟩ := hp
  refine r_as (b := 1) (by rw [if_pos nu0_al]; rfl) ?_
  refine lv_if_eq (tgt := 14) X.1 X.2.1 dL_isAllowed_7 (by decide) (fun h7 => absurd h7 (by decide)) (fun h7 => ?_)
  refine lv_lconst (v := 1) X.1 X.2.1 dL_isAllowed_10 (by decide) ?_
  refine lv_goto (tgt := 15) X.1 X.2.1 dL_isAllowed_11 (by decide) ?_
  refine w_last B hO hS dL_isAllowed_15 (fun f H locs hf hO hS => ?_)
  refine lv_goto (tgt := 22) X.1 X.2.1 dL_isAllowed_16 (by decide) ?_
  refine lv_iconst (v := 0) X.1 X.2.1 dL_isAllowed_22 (by decide) ?_
  refine W.widen (k := 1) (n := 6) (Nat.le_of_ble_eq_true rfl) (Nat.le_of_ble_eq_true rfl) ?_
  exact rW ⟨rfl, fun _ => hf⟩ B hO hS dL_isAllowed_23

theorem w_L_isAllowed {l : Launch} (hlt : l.stackTraces = false) {G : dG} {cL : ClassId} {ao : Nat} (ha : G.2.2 + 90 ≤ ao) {a : Int32} : wMet l yL_isAllowed cL_isAllowed 4 [(0, 16, 19, 13)] 4 G cL ao [.ref (ra G 0), .int a, .ref ao] (kSet a) (1) := by
  cases h1 : inR a 0 0
  · rw [show kSet a = 1 from by simp [kSet, bI, h1]]; exact w1_L_isAllowed hlt ha h1
  · rw [show kSet a = 0 from by simp [kSet, bI, h1]]; rw [inR_00 h1]; exact w2_L_isAllowed hlt ha

set_option maxHeartbeats 4000000 in
set_option maxRecDepth 100000 in
theorem w1_L_goods {l : Launch} (hlt : l.stackTraces = false) {G : dG} {cL : ClassId} {ao : Nat} (ha : G.2.2 + 90 ≤ ao) {a : Int32} (ha1 : inR a 0 0 = false) : wMet l yL_goods cL_goods 4 [(0, 9, 12, 13), (0, 9, 15, 15)] 6 G cL ao [.ref (ra G 0), .int a, .ref ao] 1 ((0 : Int32).toInt64) := by
  refine wMet_of (by decide +kernel) rfl (Nat.le_of_ble_eq_true rfl) ?_
  intro p e s m args below meth c ls f B hM hO hl
  have X := B.1
  have hS : wS G ao s.heap s.heap [] := va_S.rf
  refine lv_aload_n X.1 X.2.1 dL_goods_0 rfl (lv_at hl 2 rfl) ?_
  refine lv_iconst (v := 0) X.1 X.2.1 dL_goods_1 (by decide) ?_
  refine lv_aload_n X.1 X.2.1 dL_goods_2 rfl (lv_at hl 0 rfl) ?_
  refine lv_iload_n X.1 X.2.1 dL_goods_3 rfl (lv_at hl 1 rfl) ?_
  refine kWX (As := [_]) B ha hM hO hS hl.1 (x_X5_goods hlt ha1) rfl kl_L_49 mf_X5_goods ⟨Nat.le_of_ble_eq_true rfl, Nat.le_of_ble_eq_true rfl⟩ ⟨Nat.le_of_ble_eq_true rfl, Nat.le_of_ble_eq_true rfl⟩ rfl (Nat.le_of_ble_eq_true rfl) dL_goods_4 (fun ce q9 H locs hO hS hce hcv hcl => ?_)
  refine kC1 B (by decide) (by decide) kc_L_13 ca_IAE hce hcv hcl ?_
  refine lv_astore_n X.1 X.2.1 dL_goods_12 rfl hl (by decide) rfl (fun ls hl => ?_)
  replace hl : lv_has ls 4 [(3, _), (0, _), (1, _), (2, _)] := hl
  refine lv_iconst (v := 1) X.1 X.2.1 dL_goods_13 (by decide) ?_
  exact rW ⟨rfl, fun h => absurd h (by decide)⟩ B hO hS dL_goods_14

set_option maxHeartbeats 4000000 in
set_option maxRecDepth 100000 in
theorem w2_L_goods {l : Launch} (hlt : l.stackTraces = false) {G : dG} {cL : ClassId} {ao : Nat} (ha : G.2.2 + 90 ≤ ao)   : wMet l yL_goods cL_goods 4 [(0, 9, 12, 13), (0, 9, 15, 15)] 6 G cL ao [.ref (ra G 0), .int (nI 0), .ref ao] 0 ((0 : Int32).toInt64) := by
  refine wMet_of (by decide +kernel) rfl (Nat.le_of_ble_eq_true rfl) ?_
  intro p e s m args below meth c ls f B hM hO hl
  have X := B.1
  have hS : wS G ao s.heap s.heap [] := va_S.rf
  refine lv_aload_n X.1 X.2.1 dL_goods_0 rfl (lv_at hl 2 rfl) ?_
  refine lv_iconst (v := 0) X.1 X.2.1 dL_goods_1 (by decide) ?_
  refine lv_aload_n X.1 X.2.1 dL_goods_2 rfl (lv_at hl 0 rfl) ?_
  refine lv_iload_n X.1 X.2.1 dL_goods_3 rfl (lv_at hl 1 rfl) ?_
  refine kWI (As := [_]) B ha hM hO hS hl.1 (c_X5_goods (st := 0) nu0_WD (by decide) nu0_al) rfl kl_L_49 mf_X5_goods ⟨Nat.le_of_ble_eq_true rfl, Nat.le_of_ble_eq_true rfl⟩ ⟨Nat.zero_le _, Nat.zero_le _⟩ rfl (Nat.le_of_ble_eq_true rfl) dL_goods_4 (fun r ν H locs hp hO hS => ?_)
  obtain ⟨rfl, -⟩ := hp
  refine r_as (b := 0) (by rw [nu0_gd]; rfl) ?_
  refine lv_i2l X.1 X.2.1 dL_goods_7 rfl ?_
  refine w_last B hO hS dL_goods_8 (fun f H locs hf hO hS => ?_)
  refine lv_goto (tgt := 18) X.1 X.2.1 dL_goods_9 (by decide) ?_
  refine lv_iconst (v := 0) X.1 X.2.1 dL_goods_18 (by decide) ?_
  refine W.widen (k := 1) (n := 6) (Nat.le_of_ble_eq_true rfl) (Nat.le_of_ble_eq_true rfl) ?_
  exact rW ⟨rfl, fun _ => hf⟩ B hO hS dL_goods_19

theorem w_L_goods {l : Launch} (hlt : l.stackTraces = false) {G : dG} {cL : ClassId} {ao : Nat} (ha : G.2.2 + 90 ≤ ao) {a : Int32} : wMet l yL_goods cL_goods 4 [(0, 9, 12, 13), (0, 9, 15, 15)] 6 G cL ao [.ref (ra G 0), .int a, .ref ao] (kSet a) ((0 : Int32).toInt64) := by
  cases h1 : inR a 0 0
  · rw [show kSet a = 1 from by simp [kSet, bI, h1]]; exact w1_L_goods hlt ha h1
  · rw [show kSet a = 0 from by simp [kSet, bI, h1]]; rw [inR_00 h1]; exact w2_L_goods hlt ha

set_option maxHeartbeats 4000000 in
set_option maxRecDepth 100000 in
theorem w1_L_total {l : Launch} (hlt : l.stackTraces = false) {G : dG} {cL : ClassId} {ao : Nat} (ha : G.2.2 + 90 ≤ ao) {a : Int32} (ha1 : inR a 0 0 = false) : wMet l yL_total cL_total 4 [(0, 9, 12, 13), (0, 9, 15, 15)] 6 G cL ao [.ref (ra G 0), .int a, .ref ao] 1 ((0 : Int32).toInt64) := by
  refine wMet_of (by decide +kernel) rfl (Nat.le_of_ble_eq_true rfl) ?_
  intro p e s m args below meth c ls f B hM hO hl
  have X := B.1
  have hS : wS G ao s.heap s.heap [] := va_S.rf
  refine lv_aload_n X.1 X.2.1 dL_total_0 rfl (lv_at hl 2 rfl) ?_
  refine lv_iconst (v := 0) X.1 X.2.1 dL_total_1 (by decide) ?_
  refine lv_aload_n X.1 X.2.1 dL_total_2 rfl (lv_at hl 0 rfl) ?_
  refine lv_iload_n X.1 X.2.1 dL_total_3 rfl (lv_at hl 1 rfl) ?_
  refine kWX (As := [_]) B ha hM hO hS hl.1 (x_X5_total hlt ha1) rfl kl_L_52 mf_X5_total ⟨Nat.le_of_ble_eq_true rfl, Nat.le_of_ble_eq_true rfl⟩ ⟨Nat.le_of_ble_eq_true rfl, Nat.le_of_ble_eq_true rfl⟩ rfl (Nat.le_of_ble_eq_true rfl) dL_total_4 (fun ce q9 H locs hO hS hce hcv hcl => ?_)
  refine kC1 B (by decide) (by decide) kc_L_13 ca_IAE hce hcv hcl ?_
  refine lv_astore_n X.1 X.2.1 dL_total_12 rfl hl (by decide) rfl (fun ls hl => ?_)
  replace hl : lv_has ls 4 [(3, _), (0, _), (1, _), (2, _)] := hl
  refine lv_iconst (v := 1) X.1 X.2.1 dL_total_13 (by decide) ?_
  exact rW ⟨rfl, fun h => absurd h (by decide)⟩ B hO hS dL_total_14

set_option maxHeartbeats 4000000 in
set_option maxRecDepth 100000 in
theorem w2_L_total {l : Launch} (hlt : l.stackTraces = false) {G : dG} {cL : ClassId} {ao : Nat} (ha : G.2.2 + 90 ≤ ao)   : wMet l yL_total cL_total 4 [(0, 9, 12, 13), (0, 9, 15, 15)] 6 G cL ao [.ref (ra G 0), .int (nI 0), .ref ao] 0 ((0 : Int32).toInt64) := by
  refine wMet_of (by decide +kernel) rfl (Nat.le_of_ble_eq_true rfl) ?_
  intro p e s m args below meth c ls f B hM hO hl
  have X := B.1
  have hS : wS G ao s.heap s.heap [] := va_S.rf
  refine lv_aload_n X.1 X.2.1 dL_total_0 rfl (lv_at hl 2 rfl) ?_
  refine lv_iconst (v := 0) X.1 X.2.1 dL_total_1 (by decide) ?_
  refine lv_aload_n X.1 X.2.1 dL_total_2 rfl (lv_at hl 0 rfl) ?_
  refine lv_iload_n X.1 X.2.1 dL_total_3 rfl (lv_at hl 1 rfl) ?_
  refine kWI (As := [_]) B ha hM hO hS hl.1 (c_X5_total (st := 0) nu0_WD (by decide) nu0_al) rfl kl_L_52 mf_X5_total ⟨Nat.le_of_ble_eq_true rfl, Nat.le_of_ble_eq_true rfl⟩ ⟨Nat.zero_le _, Nat.zero_le _⟩ rfl (Nat.le_of_ble_eq_true rfl) dL_total_4 (fun r ν H locs hp hO hS => ?_)
  obtain ⟨rfl, -⟩ := hp
  refine r_as (b := 0) (by rw [nu0_to]; rfl) ?_
  refine lv_i2l X.1 X.2.1 dL_total_7 rfl ?_
  refine w_last B hO hS dL_total_8 (fun f H locs hf hO hS => ?_)
  refine lv_goto (tgt := 18) X.1 X.2.1 dL_total_9 (by decide) ?_
  refine lv_iconst (v := 0) X.1 X.2.1 dL_total_18 (by decide) ?_
  refine W.widen (k := 1) (n := 6) (Nat.le_of_ble_eq_true rfl) (Nat.le_of_ble_eq_true rfl) ?_
  exact rW ⟨rfl, fun _ => hf⟩ B hO hS dL_total_19

theorem w_L_total {l : Launch} (hlt : l.stackTraces = false) {G : dG} {cL : ClassId} {ao : Nat} (ha : G.2.2 + 90 ≤ ao) {a : Int32} : wMet l yL_total cL_total 4 [(0, 9, 12, 13), (0, 9, 15, 15)] 6 G cL ao [.ref (ra G 0), .int a, .ref ao] (kSet a) ((0 : Int32).toInt64) := by
  cases h1 : inR a 0 0
  · rw [show kSet a = 1 from by simp [kSet, bI, h1]]; exact w1_L_total hlt ha h1
  · rw [show kSet a = 0 from by simp [kSet, bI, h1]]; rw [inR_00 h1]; exact w2_L_total hlt ha

set_option maxHeartbeats 4000000 in
set_option maxRecDepth 100000 in
theorem w1_L_rest {l : Launch} (hlt : l.stackTraces = false) {G : dG} {cL : ClassId} {ao : Nat} (ha : G.2.2 + 90 ≤ ao) {a b : Int32} (ha1 : inR a 0 0 = false) : wMet l yL_rest cL_rest 5 [(0, 10, 13, 13), (0, 10, 17, 20), (0, 10, 21, 15)] 1 G cL ao [.ref (ra G 0), .int a, .int b, .ref ao] 1 ((0 : Int32).toInt64) := by
  refine wMet_of (by decide +kernel) rfl (Nat.le_of_ble_eq_true rfl) ?_
  intro p e s m args below meth c ls f B hM hO hl
  have X := B.1
  have hS : wS G ao s.heap s.heap [] := va_S.rf
  refine lv_aload_n X.1 X.2.1 dL_rest_0 rfl (lv_at hl 3 rfl) ?_
  refine lv_iconst (v := 0) X.1 X.2.1 dL_rest_1 (by decide) ?_
  refine lv_aload_n X.1 X.2.1 dL_rest_2 rfl (lv_at hl 0 rfl) ?_
  refine lv_iload_n X.1 X.2.1 dL_rest_3 rfl (lv_at hl 1 rfl) ?_
  refine lv_iload_n X.1 X.2.1 dL_rest_4 rfl (lv_at hl 2 rfl) ?_
  refine kWX (As := [_, _]) B ha hM hO hS hl.1 (x_X5_rest1 hlt ha1) rfl kl_L_55 mf_X5_rest ⟨Nat.le_of_ble_eq_true rfl, Nat.le_of_ble_eq_true rfl⟩ ⟨Nat.le_of_ble_eq_true rfl, Nat.le_of_ble_eq_true rfl⟩ rfl (Nat.le_of_ble_eq_true rfl) dL_rest_5 (fun ce q9 H locs hO hS hce hcv hcl => ?_)
  refine kC1 B (by decide) (by decide) kc_L_13 ca_IAE hce hcv hcl ?_
  refine lv_astore X.1 X.2.1 dL_rest_13 hl (by decide) rfl (fun ls hl => ?_)
  replace hl : lv_has ls 5 [(4, _), (0, _), (1, _), (2, _), (3, _)] := hl
  refine lv_iconst (v := 1) X.1 X.2.1 dL_rest_15 (by decide) ?_
  exact rW ⟨rfl, fun h => absurd h (by decide)⟩ B hO hS dL_rest_16

set_option maxHeartbeats 4000000 in
set_option maxRecDepth 100000 in
theorem w2_L_rest {l : Launch} (hlt : l.stackTraces = false) {G : dG} {cL : ClassId} {ao : Nat} (ha : G.2.2 + 90 ≤ ao) {b : Int32}  : wMet l yL_rest cL_rest 5 [(0, 10, 13, 13), (0, 10, 17, 20), (0, 10, 21, 15)] 1 G cL ao [.ref (ra G 0), .int (nI 0), .int b, .ref ao] 2 ((0 : Int32).toInt64) := by
  refine wMet_of (by decide +kernel) rfl (Nat.le_of_ble_eq_true rfl) ?_
  intro p e s m args below meth c ls f B hM hO hl
  have X := B.1
  have hS : wS G ao s.heap s.heap [] := va_S.rf
  refine lv_aload_n X.1 X.2.1 dL_rest_0 rfl (lv_at hl 3 rfl) ?_
  refine lv_iconst (v := 0) X.1 X.2.1 dL_rest_1 (by decide) ?_
  refine lv_aload_n X.1 X.2.1 dL_rest_2 rfl (lv_at hl 0 rfl) ?_
  refine lv_iload_n X.1 X.2.1 dL_rest_3 rfl (lv_at hl 1 rfl) ?_
  refine lv_iload_n X.1 X.2.1 dL_rest_4 rfl (lv_at hl 2 rfl) ?_
  refine kWX (As := [_, _]) B ha hM hO hS hl.1 (x_X5_rest2 hlt) rfl kl_L_55 mf_X5_rest ⟨Nat.le_of_ble_eq_true rfl, Nat.le_of_ble_eq_true rfl⟩ ⟨Nat.le_of_ble_eq_true rfl, Nat.le_of_ble_eq_true rfl⟩ rfl (Nat.le_of_ble_eq_true rfl) dL_rest_5 (fun ce q9 H locs hO hS hce hcv hcl => ?_)
  refine kC2 B (by decide) kc_L_13 B.2.2.2.2.2.2.1.1 (by decide) (by decide) kc_L_20 ca_IOO hce hcv hcl ?_
  refine lv_astore X.1 X.2.1 dL_rest_17 hl (by decide) rfl (fun ls hl => ?_)
  replace hl : lv_has ls 5 [(4, _), (0, _), (1, _), (2, _), (3, _)] := hl
  refine lv_iconst (v := 2) X.1 X.2.1 dL_rest_19 (by decide) ?_
  exact rW ⟨rfl, fun h => absurd h (by decide)⟩ B hO hS dL_rest_20

theorem w_L_rest {l : Launch} (hlt : l.stackTraces = false) {G : dG} {cL : ClassId} {ao : Nat} (ha : G.2.2 + 90 ≤ ao) {a b : Int32} : wMet l yL_rest cL_rest 5 [(0, 10, 13, 13), (0, 10, 17, 20), (0, 10, 21, 15)] 1 G cL ao [.ref (ra G 0), .int a, .int b, .ref ao] (kTwo a) ((0 : Int32).toInt64) := by
  cases h1 : inR a 0 0
  · rw [show kTwo a = 1 from by simp [kTwo, h1]]; exact w1_L_rest hlt ha h1
  · rw [show kTwo a = 2 from by simp [kTwo, h1]]; rw [inR_00 h1]; exact w2_L_rest hlt ha

set_option maxHeartbeats 4000000 in
set_option maxRecDepth 100000 in
theorem w1_L_buy {l : Launch} (hlt : l.stackTraces = false) {G : dG} {cL : ClassId} {ao : Nat} (ha : G.2.2 + 90 ≤ ao) {a : Int32} (ha1 : inR a 0 0 = false) : wMet l yL_buy cL_buy 4 [(0, 9, 12, 13), (0, 9, 15, 15)] 5 G cL ao [.ref (ra G 0), .int a, .ref ao] 1 ((0 : Int32).toInt64) := by
  refine wMet_of (by decide +kernel) rfl (Nat.le_of_ble_eq_true rfl) ?_
  intro p e s m args below meth c ls f B hM hO hl
  have X := B.1
  have hS : wS G ao s.heap s.heap [] := va_S.rf
  refine lv_aload_n X.1 X.2.1 dL_buy_0 rfl (lv_at hl 2 rfl) ?_
  refine lv_iconst (v := 0) X.1 X.2.1 dL_buy_1 (by decide) ?_
  refine lv_aload_n X.1 X.2.1 dL_buy_2 rfl (lv_at hl 0 rfl) ?_
  refine lv_iload_n X.1 X.2.1 dL_buy_3 rfl (lv_at hl 1 rfl) ?_
  refine kWX (As := [_]) B ha hM hO hS hl.1 (x_X5_buy1 hlt ha1) rfl kl_L_61 mf_X5_buy ⟨Nat.le_of_ble_eq_true rfl, Nat.le_of_ble_eq_true rfl⟩ ⟨Nat.le_of_ble_eq_true rfl, Nat.le_of_ble_eq_true rfl⟩ rfl (Nat.le_of_ble_eq_true rfl) dL_buy_4 (fun ce q9 H locs hO hS hce hcv hcl => ?_)
  refine kC1 B (by decide) (by decide) kc_L_13 ca_IAE hce hcv hcl ?_
  refine lv_astore_n X.1 X.2.1 dL_buy_12 rfl hl (by decide) rfl (fun ls hl => ?_)
  replace hl : lv_has ls 4 [(3, _), (0, _), (1, _), (2, _)] := hl
  refine lv_iconst (v := 1) X.1 X.2.1 dL_buy_13 (by decide) ?_
  exact rW ⟨rfl, fun h => absurd h (by decide)⟩ B hO hS dL_buy_14

set_option maxHeartbeats 4000000 in
set_option maxRecDepth 100000 in
theorem w2_L_buy {l : Launch} (hlt : l.stackTraces = false) {G : dG} {cL : ClassId} {ao : Nat} (ha : G.2.2 + 90 ≤ ao)   : wMet l yL_buy cL_buy 4 [(0, 9, 12, 13), (0, 9, 15, 15)] 5 G cL ao [.ref (ra G 0), .int (nI 0), .ref ao] 2 ((0 : Int32).toInt64) := by
  refine wMet_of (by decide +kernel) rfl (Nat.le_of_ble_eq_true rfl) ?_
  intro p e s m args below meth c ls f B hM hO hl
  have X := B.1
  have hS : wS G ao s.heap s.heap [] := va_S.rf
  refine lv_aload_n X.1 X.2.1 dL_buy_0 rfl (lv_at hl 2 rfl) ?_
  refine lv_iconst (v := 0) X.1 X.2.1 dL_buy_1 (by decide) ?_
  refine lv_aload_n X.1 X.2.1 dL_buy_2 rfl (lv_at hl 0 rfl) ?_
  refine lv_iload_n X.1 X.2.1 dL_buy_3 rfl (lv_at hl 1 rfl) ?_
  refine kWX (As := [_]) B ha hM hO hS hl.1 (x_X5_buy2 hlt) rfl kl_L_61 mf_X5_buy ⟨Nat.le_of_ble_eq_true rfl, Nat.le_of_ble_eq_true rfl⟩ ⟨Nat.le_of_ble_eq_true rfl, Nat.le_of_ble_eq_true rfl⟩ rfl (Nat.le_of_ble_eq_true rfl) dL_buy_4 (fun ce q9 H locs hO hS hce hcv hcl => ?_)
  refine kC2 B (by decide) kc_L_13 B.2.2.2.2.2.2.1.2 (by decide) (by decide) kc_L_15 ca_ISE hce hcv hcl ?_
  refine lv_astore_n X.1 X.2.1 dL_buy_15 rfl hl (by decide) rfl (fun ls hl => ?_)
  replace hl : lv_has ls 4 [(3, _), (0, _), (1, _), (2, _)] := hl
  refine lv_iconst (v := 2) X.1 X.2.1 dL_buy_16 (by decide) ?_
  exact rW ⟨rfl, fun h => absurd h (by decide)⟩ B hO hS dL_buy_17

theorem w_L_buy {l : Launch} (hlt : l.stackTraces = false) {G : dG} {cL : ClassId} {ao : Nat} (ha : G.2.2 + 90 ≤ ao) {a : Int32} : wMet l yL_buy cL_buy 4 [(0, 9, 12, 13), (0, 9, 15, 15)] 5 G cL ao [.ref (ra G 0), .int a, .ref ao] (kTwo a) ((0 : Int32).toInt64) := by
  cases h1 : inR a 0 0
  · rw [show kTwo a = 1 from by simp [kTwo, h1]]; exact w1_L_buy hlt ha h1
  · rw [show kTwo a = 2 from by simp [kTwo, h1]]; rw [inR_00 h1]; exact w2_L_buy hlt ha

theorem mc_L_addArticle : Cond.static yL_addArticle ∈ allW ∧ Cond.initialized RL ∈ allW ∧ Cond.codeWith yL_addArticle cL_addArticle 5 (some .int) [(0, 10, 13, 13), (0, 10, 17, 15)] ∈ allW ∧ (yL_addArticle.cls ≠ "java/lang/invoke/MethodHandle" ∧ yL_addArticle.cls ≠ "java/lang/invoke/VarHandle" ∧ (parseMethodDescriptor yL_addArticle.desc).map (fun d => d.parameters.length) = some 4) := ⟨allW_in (tb_in 347 (by decide +kernel)) rfl, allW_in (tb_in 0 (by decide +kernel)) rfl, allW_in (tb_in 348 (by decide +kernel)) rfl, ⟨by decide +kernel, by decide +kernel, by decide +kernel⟩⟩
theorem mc_L_setPrice : Cond.static yL_setPrice ∈ allW ∧ Cond.initialized RL ∈ allW ∧ Cond.codeWith yL_setPrice cL_setPrice 5 (some .int) [(0, 10, 13, 20), (0, 10, 17, 13)] ∈ allW ∧ (yL_setPrice.cls ≠ "java/lang/invoke/MethodHandle" ∧ yL_setPrice.cls ≠ "java/lang/invoke/VarHandle" ∧ (parseMethodDescriptor yL_setPrice.desc).map (fun d => d.parameters.length) = some 4) := ⟨allW_in (tb_in 444 (by decide +kernel)) rfl, allW_in (tb_in 0 (by decide +kernel)) rfl, allW_in (tb_in 445 (by decide +kernel)) rfl, ⟨by decide +kernel, by decide +kernel, by decide +kernel⟩⟩
theorem mc_L_put : Cond.static yL_put ∈ allW ∧ Cond.initialized RL ∈ allW ∧ Cond.codeWith yL_put cL_put 5 (some .int) [(0, 10, 13, 20), (0, 10, 17, 13)] ∈ allW ∧ (yL_put.cls ≠ "java/lang/invoke/MethodHandle" ∧ yL_put.cls ≠ "java/lang/invoke/VarHandle" ∧ (parseMethodDescriptor yL_put.desc).map (fun d => d.parameters.length) = some 4) := ⟨allW_in (tb_in 472 (by decide +kernel)) rfl, allW_in (tb_in 0 (by decide +kernel)) rfl, allW_in (tb_in 473 (by decide +kernel)) rfl, ⟨by decide +kernel, by decide +kernel, by decide +kernel⟩⟩
theorem mc_L_setShipping : Cond.static yL_setShipping ∈ allW ∧ Cond.initialized RL ∈ allW ∧ Cond.codeWith yL_setShipping cL_setShipping 5 (some .int) [(0, 10, 13, 13)] ∈ allW ∧ (yL_setShipping.cls ≠ "java/lang/invoke/MethodHandle" ∧ yL_setShipping.cls ≠ "java/lang/invoke/VarHandle" ∧ (parseMethodDescriptor yL_setShipping.desc).map (fun d => d.parameters.length) = some 4) := ⟨allW_in (tb_in 480 (by decide +kernel)) rfl, allW_in (tb_in 0 (by decide +kernel)) rfl, allW_in (tb_in 481 (by decide +kernel)) rfl, ⟨by decide +kernel, by decide +kernel, by decide +kernel⟩⟩
theorem mc_L_addCoupon : Cond.static yL_addCoupon ∈ allW ∧ Cond.initialized RL ∈ allW ∧ Cond.codeWith yL_addCoupon cL_addCoupon 8 (some .int) [(0, 16, 19, 13), (0, 16, 23, 15)] ∈ allW ∧ (yL_addCoupon.cls ≠ "java/lang/invoke/MethodHandle" ∧ yL_addCoupon.cls ≠ "java/lang/invoke/VarHandle" ∧ (parseMethodDescriptor yL_addCoupon.desc).map (fun d => d.parameters.length) = some 7) := ⟨allW_in (tb_in 489 (by decide +kernel)) rfl, allW_in (tb_in 0 (by decide +kernel)) rfl, allW_in (tb_in 490 (by decide +kernel)) rfl, ⟨by decide +kernel, by decide +kernel, by decide +kernel⟩⟩
theorem mc_L_setUses : Cond.static yL_setUses ∈ allW ∧ Cond.initialized RL ∈ allW ∧ Cond.codeWith yL_setUses cL_setUses 5 (some .int) [(0, 10, 13, 20), (0, 10, 17, 13)] ∈ allW ∧ (yL_setUses.cls ≠ "java/lang/invoke/MethodHandle" ∧ yL_setUses.cls ≠ "java/lang/invoke/VarHandle" ∧ (parseMethodDescriptor yL_setUses.desc).map (fun d => d.parameters.length) = some 4) := ⟨allW_in (tb_in 509 (by decide +kernel)) rfl, allW_in (tb_in 0 (by decide +kernel)) rfl, allW_in (tb_in 510 (by decide +kernel)) rfl, ⟨by decide +kernel, by decide +kernel, by decide +kernel⟩⟩
theorem mc_L_matching : Cond.static yL_matching ∈ allW ∧ Cond.initialized RL ∈ allW ∧ Cond.codeWith yL_matching cL_matching 4 (some .int) [(0, 9, 12, 20)] ∈ allW ∧ (yL_matching.cls ≠ "java/lang/invoke/MethodHandle" ∧ yL_matching.cls ≠ "java/lang/invoke/VarHandle" ∧ (parseMethodDescriptor yL_matching.desc).map (fun d => d.parameters.length) = some 3) := ⟨allW_in (tb_in 522 (by decide +kernel)) rfl, allW_in (tb_in 0 (by decide +kernel)) rfl, allW_in (tb_in 523 (by decide +kernel)) rfl, ⟨by decide +kernel, by decide +kernel, by decide +kernel⟩⟩
theorem mc_L_fits : Cond.static yL_fits ∈ allW ∧ Cond.initialized RL ∈ allW ∧ Cond.codeWith yL_fits cL_fits 4 (some .int) [(0, 16, 19, 20)] ∈ allW ∧ (yL_fits.cls ≠ "java/lang/invoke/MethodHandle" ∧ yL_fits.cls ≠ "java/lang/invoke/VarHandle" ∧ (parseMethodDescriptor yL_fits.desc).map (fun d => d.parameters.length) = some 3) := ⟨allW_in (tb_in 529 (by decide +kernel)) rfl, allW_in (tb_in 0 (by decide +kernel)) rfl, allW_in (tb_in 530 (by decide +kernel)) rfl, ⟨by decide +kernel, by decide +kernel, by decide +kernel⟩⟩
theorem mc_L_missing : Cond.static yL_missing ∈ allW ∧ Cond.initialized RL ∈ allW ∧ Cond.codeWith yL_missing cL_missing 4 (some .int) [(0, 9, 12, 20)] ∈ allW ∧ (yL_missing.cls ≠ "java/lang/invoke/MethodHandle" ∧ yL_missing.cls ≠ "java/lang/invoke/VarHandle" ∧ (parseMethodDescriptor yL_missing.desc).map (fun d => d.parameters.length) = some 3) := ⟨allW_in (tb_in 536 (by decide +kernel)) rfl, allW_in (tb_in 0 (by decide +kernel)) rfl, allW_in (tb_in 537 (by decide +kernel)) rfl, ⟨by decide +kernel, by decide +kernel, by decide +kernel⟩⟩
theorem mc_L_isAllowed : Cond.static yL_isAllowed ∈ allW ∧ Cond.initialized RL ∈ allW ∧ Cond.codeWith yL_isAllowed cL_isAllowed 4 (some .int) [(0, 16, 19, 13)] ∈ allW ∧ (yL_isAllowed.cls ≠ "java/lang/invoke/MethodHandle" ∧ yL_isAllowed.cls ≠ "java/lang/invoke/VarHandle" ∧ (parseMethodDescriptor yL_isAllowed.desc).map (fun d => d.parameters.length) = some 3) := ⟨allW_in (tb_in 546 (by decide +kernel)) rfl, allW_in (tb_in 0 (by decide +kernel)) rfl, allW_in (tb_in 547 (by decide +kernel)) rfl, ⟨by decide +kernel, by decide +kernel, by decide +kernel⟩⟩
theorem mc_L_goods : Cond.static yL_goods ∈ allW ∧ Cond.initialized RL ∈ allW ∧ Cond.codeWith yL_goods cL_goods 4 (some .int) [(0, 9, 12, 13), (0, 9, 15, 15)] ∈ allW ∧ (yL_goods.cls ≠ "java/lang/invoke/MethodHandle" ∧ yL_goods.cls ≠ "java/lang/invoke/VarHandle" ∧ (parseMethodDescriptor yL_goods.desc).map (fun d => d.parameters.length) = some 3) := ⟨allW_in (tb_in 562 (by decide +kernel)) rfl, allW_in (tb_in 0 (by decide +kernel)) rfl, allW_in (tb_in 563 (by decide +kernel)) rfl, ⟨by decide +kernel, by decide +kernel, by decide +kernel⟩⟩
theorem mc_L_total : Cond.static yL_total ∈ allW ∧ Cond.initialized RL ∈ allW ∧ Cond.codeWith yL_total cL_total 4 (some .int) [(0, 9, 12, 13), (0, 9, 15, 15)] ∈ allW ∧ (yL_total.cls ≠ "java/lang/invoke/MethodHandle" ∧ yL_total.cls ≠ "java/lang/invoke/VarHandle" ∧ (parseMethodDescriptor yL_total.desc).map (fun d => d.parameters.length) = some 3) := ⟨allW_in (tb_in 582 (by decide +kernel)) rfl, allW_in (tb_in 0 (by decide +kernel)) rfl, allW_in (tb_in 583 (by decide +kernel)) rfl, ⟨by decide +kernel, by decide +kernel, by decide +kernel⟩⟩
theorem mc_L_rest : Cond.static yL_rest ∈ allW ∧ Cond.initialized RL ∈ allW ∧ Cond.codeWith yL_rest cL_rest 5 (some .int) [(0, 10, 13, 13), (0, 10, 17, 20), (0, 10, 21, 15)] ∈ allW ∧ (yL_rest.cls ≠ "java/lang/invoke/MethodHandle" ∧ yL_rest.cls ≠ "java/lang/invoke/VarHandle" ∧ (parseMethodDescriptor yL_rest.desc).map (fun d => d.parameters.length) = some 4) := ⟨allW_in (tb_in 589 (by decide +kernel)) rfl, allW_in (tb_in 0 (by decide +kernel)) rfl, allW_in (tb_in 590 (by decide +kernel)) rfl, ⟨by decide +kernel, by decide +kernel, by decide +kernel⟩⟩
theorem mc_L_worth : Cond.static yL_worth ∈ allW ∧ Cond.initialized RL ∈ allW ∧ Cond.codeWith yL_worth cL_worth 4 (some .int) [(0, 9, 12, 20)] ∈ allW ∧ (yL_worth.cls ≠ "java/lang/invoke/MethodHandle" ∧ yL_worth.cls ≠ "java/lang/invoke/VarHandle" ∧ (parseMethodDescriptor yL_worth.desc).map (fun d => d.parameters.length) = some 3) := ⟨allW_in (tb_in 600 (by decide +kernel)) rfl, allW_in (tb_in 0 (by decide +kernel)) rfl, allW_in (tb_in 601 (by decide +kernel)) rfl, ⟨by decide +kernel, by decide +kernel, by decide +kernel⟩⟩
theorem mc_L_buy : Cond.static yL_buy ∈ allW ∧ Cond.initialized RL ∈ allW ∧ Cond.codeWith yL_buy cL_buy 4 (some .int) [(0, 9, 12, 13), (0, 9, 15, 15)] ∈ allW ∧ (yL_buy.cls ≠ "java/lang/invoke/MethodHandle" ∧ yL_buy.cls ≠ "java/lang/invoke/VarHandle" ∧ (parseMethodDescriptor yL_buy.desc).map (fun d => d.parameters.length) = some 3) := ⟨allW_in (tb_in 607 (by decide +kernel)) rfl, allW_in (tb_in 0 (by decide +kernel)) rfl, allW_in (tb_in 608 (by decide +kernel)) rfl, ⟨by decide +kernel, by decide +kernel, by decide +kernel⟩⟩
theorem mc_L_giveBack : Cond.static yL_giveBack ∈ allW ∧ Cond.initialized RL ∈ allW ∧ Cond.codeWith yL_giveBack cL_giveBack 6 (some .int) [(0, 12, 15, 20), (0, 12, 19, 13)] ∈ allW ∧ (yL_giveBack.cls ≠ "java/lang/invoke/MethodHandle" ∧ yL_giveBack.cls ≠ "java/lang/invoke/VarHandle" ∧ (parseMethodDescriptor yL_giveBack.desc).map (fun d => d.parameters.length) = some 5) := ⟨allW_in (tb_in 636 (by decide +kernel)) rfl, allW_in (tb_in 0 (by decide +kernel)) rfl, allW_in (tb_in 637 (by decide +kernel)) rfl, ⟨by decide +kernel, by decide +kernel, by decide +kernel⟩⟩
theorem mc_L_order : Cond.static yL_order ∈ allW ∧ Cond.initialized RL ∈ allW ∧ Cond.codeWith yL_order cL_order 5 (some .int) [(0, 10, 13, 20)] ∈ allW ∧ (yL_order.cls ≠ "java/lang/invoke/MethodHandle" ∧ yL_order.cls ≠ "java/lang/invoke/VarHandle" ∧ (parseMethodDescriptor yL_order.desc).map (fun d => d.parameters.length) = some 4) := ⟨allW_in (tb_in 654 (by decide +kernel)) rfl, allW_in (tb_in 0 (by decide +kernel)) rfl, allW_in (tb_in 655 (by decide +kernel)) rfl, ⟨by decide +kernel, by decide +kernel, by decide +kernel⟩⟩
theorem mc_L_pieces : Cond.static yL_pieces ∈ allW ∧ Cond.initialized RL ∈ allW ∧ Cond.codeWith yL_pieces cL_pieces 5 (some .int) [(0, 10, 13, 20)] ∈ allW ∧ (yL_pieces.cls ≠ "java/lang/invoke/MethodHandle" ∧ yL_pieces.cls ≠ "java/lang/invoke/VarHandle" ∧ (parseMethodDescriptor yL_pieces.desc).map (fun d => d.parameters.length) = some 4) := ⟨allW_in (tb_in 662 (by decide +kernel)) rfl, allW_in (tb_in 0 (by decide +kernel)) rfl, allW_in (tb_in 663 (by decide +kernel)) rfl, ⟨by decide +kernel, by decide +kernel, by decide +kernel⟩⟩
