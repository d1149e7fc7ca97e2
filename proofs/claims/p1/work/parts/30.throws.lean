/-! ===== throws on a fresh desk: contracts of methods that throw, their rows ===== -/
abbrev nIAE : String := "java/lang/IllegalArgumentException"
abbrev nISE : String := "java/lang/IllegalStateException"
abbrev nIOO : String := "java/lang/IndexOutOfBoundsException"
abbrev xNames : List String := ["java/lang/RuntimeException", "java/lang/Exception"]
/-- the tables' words that no walk keeps by itself -/
def isDC : Cond → Bool
  | .declares _ => true
  | .castable .. => true
  | _ => false
def dcW : List Cond := lw_tbl.filter isDC
theorem dcW_in {w : Cond} (h : w ∈ lw_tbl) (hg : isDC w = true) : w ∈ dcW := List.mem_filter.mpr ⟨h, hg⟩
def NX (U : State) : Prop := ∀ w ∈ dcW, w.before #[] U = true
theorem NX.moved {s U : State} (hvm : s.vm.Alike U.vm) (h : NX s) : NX U := by
  intro w hw
  have h1 := h w hw
  have h2 := (List.mem_filter.mp hw).2
  cases w <;> first | exact va_tabs rfl (rfl : (s.setVm U.vm).vm = U.vm) (by rw [Cond.declares_setVm hvm]; exact h1) | exact va_tabs rfl (rfl : (s.setVm U.vm).vm = U.vm) (by rw [Cond.castable_setVm hvm]; exact h1) | exact absurd h2 (by simp [isDC])
theorem isDC_tables {w : Cond} (h : isDC w = true) : w.onTables = true := by
  cases w <;> first | rfl | exact absurd h (by simp [isDC])
theorem NX.use {s : State} {args : Array Value} (h : NX s) : ∀ w ∈ dcW, w.before args s = true := fun w hw => va_tabs (isDC_tables (List.mem_filter.mp hw).2) rfl (h w hw)
/-- the texts of the throws that a fresh desk comes to -/
def xStr : List (Nat × String) := [(242, "a price is 1 to 10000"), (67, "a category is 0 to 7"), (236, "no such article"), (96, "a fee is 0 to 10000"), (98, "a limit is 0 to 1000000"), (104, "no kind, or no value for this kind"), (106, "a set of categories is 1 to 255"), (108, "a minimum is 0 to 1000000"), (110, "a group is 0 to 3"), (238, "no such coupon"), (244, "the set contains something that is no coupon"), (181, "the basket is empty"), (240, "no such order")]
/-- what a throw needs of the state -/
def xE (G : dG) (U : State) (H : Heap) : Prop := NX U ∧ vx_Zq Bundle.tN "UNASSIGNED_STACK" Bundle.steD (pA G) U H ∧ vx_Zq Bundle.tN "SUPPRESSED_SENTINEL" Bundle.listD (pA G) U H ∧ ∀ q ∈ xStr, ∃ sa, vk_R RX5 q.1 q.2 sa U
theorem xE.go {G : dG} {s U : State} {H : Heap} {locs : List Loc} (hW : s.WarmedH U.vm) (hS : pS G s.heap H locs) (h : xE G s s.heap) : xE G U H := by
  obtain ⟨h1, h2, h3, h4⟩ := h
  refine ⟨h1.moved hW.alike, vx_Zq.moved hW.alike (h2.kept hS.2.1), vx_Zq.moved hW.alike (h3.kept hS.2.1), fun q hq => ?_⟩
  obtain ⟨sa, h5⟩ := h4 q hq
  exact ⟨sa, vk_R.warm hW h5⟩
theorem xE.calling {G : dG} {U : State} {H : Heap} {g : JFrame} {mk : MethodId} {a : Array Value} (h : xE G U H) : xE G (U.calling g mk a) H := by
  obtain ⟨h1, h2, h3, h4⟩ := h
  refine ⟨h1.moved (Vm.Alike.refl U.vm), vx_Zq.moved (Vm.Alike.refl U.vm) h2, vx_Zq.moved (Vm.Alike.refl U.vm) h3, fun q hq => ?_⟩
  obtain ⟨sa, h5⟩ := h4 q hq
  exact ⟨sa, vk_R.same rfl h5⟩
theorem dM.end {G : dG} {ν : Mm} {H : Heap} (h : dM G ν H) : G.2.2 + 90 ≤ H.size := by
  have h1 := (h 89 (by decide)).lt
  unfold ra at h1
  omega
theorem dA_pA {G : dG} {H : Heap} (h : G.2.2 + 90 ≤ H.size) : ∀ q : Nat, dA G H.size q → pA G q := by
  rintro q (⟨i, hi, rfl⟩ | h1)
  · exact pA_ra G i
  · show G.2.2 ≤ q; omega
theorem dS.wide {G : dG} {H0 H : Heap} {locs : List Loc} (h : dS G H0 H locs) (h0 : G.2.2 + 90 ≤ H0.size) : pS G H0 H locs :=
  ⟨h.1, fun q h1 h2 => h.2.1 q h1 (fun z => h2 (dA_pA h0 q z)), fun q hq => dA_pA h0 _ (h.2.2 q hq)⟩
theorem dM.same {G : dG} {ν : Mm} {H H1 : Heap} (h : dM G ν H) (ho : ∀ q : Nat, q < H.size → H1[q]? = H[q]?) : dM G ν H1 := fun i hi => (h i hi).kept (ho _ (h i hi).lt)
abbrev xPc (G : dG) (sz : Nat) (av : List Value) : Array Value → State → Prop := va_Pc av (fun U => U.heap.size = sz ∧ dM G nu0 U.heap ∧ dK G U ∧ xE G U U.heap)
abbrev xXC (G : dG) (E : String) (sz : Nat) : String → State → State → Prop := vx_X (S := Unit) (fun _ => True) (fun E' _ t => E' = E ∧ dM G nu0 t.heap) (dA G sz)
def rmX (d : Nat) : Room := { frames := d + 6, cells := 1, slots := 6, locals := 40 * d + 90 }
abbrev xQi (G : dG) (sz : Nat) : Array Value → State → Outcome → State → Prop := va_Qi (S := Unit) (fun _ _ => False) (fun _ _ => True) (dA G sz)
abbrev xQv (G : dG) (sz : Nat) : Array Value → State → Outcome → State → Prop := va_Qv (S := Unit) (fun _ => False) (fun _ _ => True) (dA G sz)
/-- the method throws E, and the desk is as it was -/
def cXI (l : Launch) (y : MethodName) (b : ByteArray) (n : Nat) (ret : Option FieldType) (d : Nat) (G : dG) (av : List Value) (E : String) : Prop :=
  ∀ sz, vx_Met l y (wsD y b n ret) (rmX d) (xPc G sz av) (xQi G sz) (xXC G E sz) 1 6 (dA G sz)
def cXV (l : Launch) (y : MethodName) (b : ByteArray) (n : Nat) (d : Nat) (G : dG) (av : List Value) (E : String) : Prop :=
  ∀ sz, vx_Met l y (wsD y b n none) (rmX d) (xPc G sz av) (xQv G sz) (xXC G E sz) 1 6 (dA G sz)
/-- what a body that throws has -/
abbrev xB (p : Program) (s : State) (m : MethodId) (args : Array Value) (meth : Method) (c : Code) (b : ByteArray) (n : Nat) (G : dG) : Prop :=
  dC p s m args c b n RX5 G ∧ xE G s s.heap ∧ (∀ x ∈ c.exceptionTable.toList, False) ∧ meth.locks = false ∧ G.2.2 + 90 ≤ s.heap.size
theorem cXI_of {l : Launch} {y : MethodName} {b : ByteArray} {n : Nat} {ret : Option FieldType} {d : Nat} {G : dG} {av : List Value} {E : String} (hy : plainName y.cls = true) (ho : y.cls = RX5) (hn : (lg_sl av).length ≤ n)
    (body : ∀ (p : Program) (e : Env) (s : State) (m : MethodId) (args : Array Value) (below : List Frame) (meth : Method) (c : Code) (ls : Array Slot), xB p s m args meth c b n G → dM G nu0 s.heap → lv_has ls n (lv_args 0 av) →
      W p l e (rmX d) s m args below meth c s.heap [] 0 0 (vx_MQ below (xQi G s.heap.size) (xXC G E s.heap.size) args s 1 6 (dA G s.heap.size)) (F0 m 0 ls [])) : cXI l y b n ret d G av E := by
  intro sz
  refine vx_ofW (cc := b) (maxL := n) (ret := ret) hy rfl ?_
  intro p e s m args below meth c s₁ B hml ht hv
  obtain ⟨rfl, hsz, hM, hK, hE⟩ := hv
  subst hsz
  have hts := atoms_spec (ws := wsD y b n ret) B.pre
  have hl := lv_entry av hn
  rw [lg_entry_eq]
  exact body p e s m _ below meth c _ ⟨⟨B.exec, B.bytes, hml, by rw [← ho]; exact findClass_of_methodNamed B.named, fun w h => hts w (List.mem_cons_of_mem _ h), hK⟩, hE, ht, B.notSynchronized, hM.end⟩ hM hl
theorem cXV_of {l : Launch} {y : MethodName} {b : ByteArray} {n : Nat} {d : Nat} {G : dG} {av : List Value} {E : String} (hy : plainName y.cls = true) (ho : y.cls = RX5) (hn : (lg_sl av).length ≤ n)
    (body : ∀ (p : Program) (e : Env) (s : State) (m : MethodId) (args : Array Value) (below : List Frame) (meth : Method) (c : Code) (ls : Array Slot), xB p s m args meth c b n G → dM G nu0 s.heap → lv_has ls n (lv_args 0 av) →
      W p l e (rmX d) s m args below meth c s.heap [] 0 0 (vx_MQ below (xQv G s.heap.size) (xXC G E s.heap.size) args s 1 6 (dA G s.heap.size)) (F0 m 0 ls [])) : cXV l y b n d G av E := by
  intro sz
  refine vx_ofW (cc := b) (maxL := n) (ret := none) hy rfl ?_
  intro p e s m args below meth c s₁ B hml ht hv
  obtain ⟨rfl, hsz, hM, hK, hE⟩ := hv
  subst hsz
  have hts := atoms_spec (ws := wsD y b n none) B.pre
  have hl := lv_entry av hn
  rw [lg_entry_eq]
  exact body p e s m _ below meth c _ ⟨⟨B.exec, B.bytes, hml, by rw [← ho]; exact findClass_of_methodNamed B.named, fun w h => hts w (List.mem_cons_of_mem _ h), hK⟩, hE, ht, B.notSynchronized, hM.end⟩ hM hl
theorem xPc_blind (G : dG) (sz : Nat) (av : List Value) : FrameBlind (xPc G sz av) := fun a U g mk q => by
  obtain ⟨q0, q1, q2, q3, q4⟩ := q
  exact ⟨q0, q1, q2, q3.calling, q4.calling⟩
/-- the words of 'new E(text)' -/
def xOK (E : String) (ik ic : Nat) : Prop := Bundle.fit E = true ∧ Cond.classLink RX5 ik E ∈ allW ∧ Cond.initialized E ∈ allW ∧ (∀ w ∈ (vx_atS RX5 ic E xNames).filter goodWord, w ∈ lw_tbl) ∧ (∀ w ∈ (vx_atS RX5 ic E xNames).filter (fun w => !goodWord w), w ∈ lw_tbl ∧ isDC w = true)
set_option maxRecDepth 100000 in
set_option maxHeartbeats 4000000 in
theorem xOK_IAE : xOK nIAE 65 69 := ⟨by decide +kernel, kc_X5_65, allW_in (tb_in 11 (by decide +kernel)) rfl, by decide +kernel, by decide +kernel⟩
set_option maxRecDepth 100000 in
set_option maxHeartbeats 4000000 in
theorem xOK_ISE : xOK nISE 72 76 := ⟨by decide +kernel, kc_X5_72, allW_in (tb_in 12 (by decide +kernel)) rfl, by decide +kernel, by decide +kernel⟩
set_option maxRecDepth 100000 in
set_option maxHeartbeats 4000000 in
theorem xOK_IOO : xOK nIOO 212 216 := ⟨by decide +kernel, kc_X5_212, allW_in (tb_in 13 (by decide +kernel)) rfl, by decide +kernel, by decide +kernel⟩
theorem xOK.ot {E : String} {ik ic : Nat} (h : xOK E ik ic) : ∀ w ∈ vx_atS RX5 ic E xNames, vx_ot w = true := by
  intro w hw
  by_cases g : goodWord w = true
  · simp [vx_ot, g]
  · have h1 := (h.2.2.2.2 w (List.mem_filter.mpr ⟨hw, by simp [g]⟩)).2
    simp [vx_ot, isDC_tables h1]
theorem xNames_fit : ∀ n ∈ xNames, Bundle.fit n = true := by decide +kernel
section RX1
variable {p : Program} {l : Launch} {e : Env} {R : Room} {s : State} {m : MethodId} {args : Array Value} {below : List Frame} {meth : Method} {c : Code} {H : Heap} {locs : List Loc}
variable {cc : ByteArray} {pc n : Nat} {ls : Array Slot} {rest : List Value} {G : dG} {Qc : Array Value → State → Outcome → State → Prop} {E : String}
/-- 'throw new E(text)' -/
theorem x_throw {ik ic is : Nat} {text : String} (hlt : l.stackTraces = false) (B : xB p s m args meth c cc n G) (hM : dM G nu0 H) (hS : dS G s.heap H locs) (hsz : ls.size = n) (hX : xOK E ik ic) (hstr : (is, text) ∈ xStr) (hR : 5 < R.frames ∧ (rest.map fun v => v.category).sum + 82 ≤ R.locals ∧ 1 ≤ R.cells ∧ 6 ≤ R.slots)
    (d0 : decode cc pc = .ok (.new ik, 3)) (d3 : decode cc (pc + 3) = .ok (.dup, 1)) (d4 : decode cc (pc + 4) = .ok (.ldc is, 2)) (d6 : decode cc (pc + 6) = .ok (.invokespecial ic, 3)) (d9 : decode cc (pc + 9) = .ok (.athrow, 1)) :
    W p l e R s m args below meth c H locs 0 0 (vx_MQ below Qc (xXC G E s.heap.size) args s 1 6 (dA G s.heap.size)) (F0 m pc ls rest) := by
  obtain ⟨X, XE, ht, hlk, h90⟩ := B
  obtain ⟨sa, hsa⟩ := XE.2.2.2 _ hstr
  have hot := hX.ot
  obtain ⟨x1, x2, x3, x4, x5⟩ := hX
  have hS' : pS G s.heap H locs := dS.wide hS h90
  refine vx_throwS (own := RX5) (cls := E) (text := text) (names := xNames) (A := pA G) X.1 X.2.1 hlt X.2.2.2.1 x1 xNames_fit (X.2.2.2.2.1 _ x2) (X.2.2.2.2.1 _ x3) hsa
    (vx_hat (B := dcW) (fun w hw => X.2.2.2.2.1 _ (allW_in (x4 w hw) (List.mem_filter.mp hw).2)) (fun w hw => dcW_in (x5 w hw).1 (x5 w hw).2) XE.1.use)
    (fun w hw => ?_) XE.2.1 XE.2.2.1 hS' (by rw [hsz]; exact X.2.2.1.symm) d0 d3 d4 d6 d9 (fun x hx => (ht x hx).elim) hR.1 (by have := hR.2.1; simpa using this) (by have := hR.2.2.1; omega) (by have := hR.2.2.2; omega) hlk
    (fun t hA hz hq => ⟨(), trivial, ⟨rfl, hM.same hq⟩, Nat.le_trans hS.1 hz, fun q h1 h2 => (hq q (Nat.lt_of_lt_of_le h1 hS.1)).trans (hS.2.1 q h1 h2)⟩) (fun z hz => hS.2.2 z hz) (Nat.le_refl _) (Nat.le_refl _)
  rcases List.mem_cons.mp hw with rfl | hw
  · rfl
  · rcases List.mem_cons.mp hw with rfl | hw
    · rfl
    · exact hot w hw
theorem x_out {pc : Nat} {ce : Cell} {q : Addr} {H1 : Heap} {locs1 : List Loc} {u : Unit} {t : State} (B : xB p s m args meth c cc n G) (ht1 : t.heap = H1) (hB : dM G nu0 t.heap) (hS : dS G s.heap H1 locs1) (hce : H1[q]? = some ce) (hcv : ce.vm = .none) (hcl : s.vm.findClass E = some ce.cls) :
    vx_W p l e R s m args below meth c H1 locs1 (0 + 1) (0 + 6) (vx_MQ below Qc (xXC G E s.heap.size) args s 1 6 (dA G s.heap.size)) (F0 m pc ls rest) q :=
  vx_out (fun x hx => (B.2.2.1 x hx).elim) B.2.2.2.1 hce hcv hcl (fun t2 h2 hA => ⟨(), trivial, ⟨rfl, by show dM G nu0 t2.heap; rw [h2, ← ht1]; exact hB⟩, by rw [h2]; exact hS.1, fun q h1 h3 => by rw [h2]; exact hS.2.1 q h1 h3⟩) hS.2.2 (by omega) (by omega)
variable {y : MethodName} {b : ByteArray} {nY d index : Nat} {ret : Option FieldType} {As st : List Value}
/-- a call of the desk's that throws: void, int; static -/
theorem kXVV (B : xB p s m args meth c cc n G) (hM : dM G nu0 H) (hS : dS G s.heap H locs) (hsz : ls.size = n) (hc : cXV l y b nY d G (.ref (ra G 0) :: As) E) (hqc : RX5 = y.cls) (hlink : Cond.methodLink RX5 index y ∈ allW) (mf : mfV y b nY As.length none) (hR : d + 7 ≤ R.frames ∧ 8 + (nY + 11) + (40 * d + 90) ≤ R.locals) (hcs : 0 + 1 ≤ R.cells ∧ 0 + 6 ≤ R.slots) (hstk : st = As.reverse ++ .ref (ra G 0) :: rest) (hst : (rest.map fun v => v.category).sum ≤ 8) (hdg : decode cc pc = .ok (.invokevirtual index, 3)) :
    W p l e R s m args below meth c H locs 0 0 (vx_MQ below Qc (xXC G E s.heap.size) args s 1 6 (dA G s.heap.size)) (F0 m pc ls st) := by
  subst hstk
  obtain ⟨m1, m2, m3, m4, m5⟩ := mf
  have X := B.1
  refine vx_callv (vx_runV (As := As) (rest := rest) ⟨X.1, X.2.1, X.2.2.1, X.2.2.2.1, X.2.2.2.2.1⟩ (hc H.size) ⟨callB_of As.length X.2.2.2.2.1 (goodIn_all (fun _ h => h) m4) rfl rfl rfl (X.2.2.2.2.1 _ m3) (X.2.2.2.2.1 _ hlink) m5 hR, X.2.2.2.2.1 _ m1, X.2.2.2.2.1 _ m2⟩
    ⟨xPc_blind _ _ _, by rw [← hqc]; exact va_recv X.2.2.2.2.2.1 hM.P (show dkCl[5]? = some _ from rfl) ((wl_get (i := 0) (by decide)).trans (by rw [dE_desk])), fun U hU hW => ⟨rfl, by rw [hU], by rw [hU]; exact hM, X.2.2.2.2.2.warm hW, by rw [hU]; exact B.2.1.go hW (dS.wide hS B.2.2.2.2)⟩⟩ rfl rfl hsz rfl (lv_room hst) hdg hcs) hS (fun q _ h => kFree hS q h) (kFree hS) (fun q _ h => kFree hS q h)
    (fun E1 ce q9 u t H1 locs1 ht hvm hp hB hz hk hS1 hce hcv hcl => ?_) (fun u t H1 locs1 ht hvm hw _ _ _ _ => hw.elim)
  obtain ⟨rfl, hB⟩ := hB
  exact x_out (u := u) B ht hB hS1 hce hcv hcl
theorem kXVI (B : xB p s m args meth c cc n G) (hM : dM G nu0 H) (hS : dS G s.heap H locs) (hsz : ls.size = n) (hc : cXI l y b nY ret d G (.ref (ra G 0) :: As) E) (hqc : RX5 = y.cls) (hlink : Cond.methodLink RX5 index y ∈ allW) (mf : mfV y b nY As.length ret) (hR : d + 7 ≤ R.frames ∧ 8 + (nY + 11) + (40 * d + 90) ≤ R.locals) (hcs : 0 + 1 ≤ R.cells ∧ 0 + 6 ≤ R.slots) (hstk : st = As.reverse ++ .ref (ra G 0) :: rest) (hst : (rest.map fun v => v.category).sum ≤ 8) (hdg : decode cc pc = .ok (.invokevirtual index, 3)) :
    W p l e R s m args below meth c H locs 0 0 (vx_MQ below Qc (xXC G E s.heap.size) args s 1 6 (dA G s.heap.size)) (F0 m pc ls st) := by
  subst hstk
  obtain ⟨m1, m2, m3, m4, m5⟩ := mf
  have X := B.1
  refine vx_calli (vx_runV (As := As) (rest := rest) ⟨X.1, X.2.1, X.2.2.1, X.2.2.2.1, X.2.2.2.2.1⟩ (hc H.size) ⟨callB_of As.length X.2.2.2.2.1 (goodIn_all (fun _ h => h) m4) rfl rfl rfl (X.2.2.2.2.1 _ m3) (X.2.2.2.2.1 _ hlink) m5 hR, X.2.2.2.2.1 _ m1, X.2.2.2.2.1 _ m2⟩
    ⟨xPc_blind _ _ _, by rw [← hqc]; exact va_recv X.2.2.2.2.2.1 hM.P (show dkCl[5]? = some _ from rfl) ((wl_get (i := 0) (by decide)).trans (by rw [dE_desk])), fun U hU hW => ⟨rfl, by rw [hU], by rw [hU]; exact hM, X.2.2.2.2.2.warm hW, by rw [hU]; exact B.2.1.go hW (dS.wide hS B.2.2.2.2)⟩⟩ rfl rfl hsz rfl (lv_room hst) hdg hcs) hS (fun q _ h => kFree hS q h) (kFree hS) (fun q _ h => kFree hS q h)
    (fun E1 ce q9 u t H1 locs1 ht hvm hp hB hz hk hS1 hce hcv hcl => ?_) (fun r u t H1 locs1 ht hvm hw _ _ _ _ => hw.elim)
  obtain ⟨rfl, hB⟩ := hB
  exact x_out (u := u) B ht hB hS1 hce hcv hcl
theorem kXSV (B : xB p s m args meth c cc n G) (hM : dM G nu0 H) (hS : dS G s.heap H locs) (hsz : ls.size = n) (hc : cXV l y b nY d G As E) (hlink : Cond.methodLink RX5 index y ∈ allW) (mf : mfS y b nY As.length none) (hR : d + 7 ≤ R.frames ∧ 8 + (nY + 11) + (40 * d + 90) ≤ R.locals) (hcs : 0 + 1 ≤ R.cells ∧ 0 + 6 ≤ R.slots) (hstk : st = As.reverse ++ rest) (hst : (rest.map fun v => v.category).sum ≤ 8) (hdg : decode cc pc = .ok (.invokestatic index, 3)) :
    W p l e R s m args below meth c H locs 0 0 (vx_MQ below Qc (xXC G E s.heap.size) args s 1 6 (dA G s.heap.size)) (F0 m pc ls st) := by
  subst hstk
  obtain ⟨m1, m3, m4, m5⟩ := mf
  have X := B.1
  refine vx_callv (vx_runS (As := As) (rest := rest) ⟨X.1, X.2.1, X.2.2.1, X.2.2.2.1, X.2.2.2.2.1⟩ (hc H.size) ⟨callB_of As.length X.2.2.2.2.1 (goodIn_all (fun _ h => h) m4) rfl rfl rfl (X.2.2.2.2.1 _ m3) (X.2.2.2.2.1 _ hlink) m5 hR, X.2.2.2.2.1 _ m1⟩
    ⟨xPc_blind _ _ _, fun U hU hW => ⟨rfl, by rw [hU], by rw [hU]; exact hM, X.2.2.2.2.2.warm hW, by rw [hU]; exact B.2.1.go hW (dS.wide hS B.2.2.2.2)⟩⟩ rfl rfl hsz rfl (lv_room hst) hdg hcs) hS (fun q _ h => kFree hS q h) (kFree hS) (fun q _ h => kFree hS q h)
    (fun E1 ce q9 u t H1 locs1 ht hvm hp hB hz hk hS1 hce hcv hcl => ?_) (fun u t H1 locs1 ht hvm hw _ _ _ _ => hw.elim)
  obtain ⟨rfl, hB⟩ := hB
  exact x_out (u := u) B ht hB hS1 hce hcv hcl
/-- the top of the stack, told otherwise -/
theorem r_as {H : Heap} {locs : List Loc} {cells slots : Nat} {Q : State → Prop} {a b : Int32} (h : a = b) (k : W p l e R s m args below meth c H locs cells slots Q (F0 m pc ls (.int b :: rest))) : W p l e R s m args below meth c H locs cells slots Q (F0 m pc ls (.int a :: rest)) := by
  subst h; exact k
end RX1
