/-! ===== rows of the law's own frame: the desk, the model behind it, the row of one long ===== -/
theorem mM.keep {J : mG} {o : Nat → Int32} {H H1 : Heap} (h : mM J o H) (ho : ∀ i, i < 10 → H1[ja J i]? = H[ja J i]?) : mM J o H1 := by
  obtain ⟨r, h⟩ := h
  refine ⟨r, fun k q hk => (h k q hk).kept ?_⟩
  rw [(mW_at hk).2]
  exact ho k (mW_at hk).1
theorem mM.lts {J : mG} {o : Nat → Int32} {H : Heap} (h : mM J o H) {i : Nat} (hi : i < 10) : ja J i < H.size := by
  have := h.lt
  unfold ja at this ⊢
  omega
/-- what the law's frame has behind the start -/
abbrev lB (p : Program) (s : State) (m : MethodId) (args : Array Value) (c : Code) (G : dG) (J : mG) (cL : ClassId) (a b : Nat) (xs : Nat → Int32) : Prop :=
  dC p s m args c code 9 RL G ∧ mK J s ∧ oK G cL s ∧ xE G s s.heap ∧ nC s ∧ J.2.2 = G.2.2 + 90 ∧ a = G.2.2 + 100 ∧ va_X b 6 xs s s.heap ∧ b < s.heap.size ∧ ¬ pA G b
section RZ
variable {p : Program} {l : Launch} {e : Env} {R : Room} {s : State} {m : MethodId} {args : Array Value} {below : List Frame} {meth : Method} {c : Code} {H : Heap} {locs : List Loc} {cells slots : Nat} {Q : State → Prop}
variable {pc nY d index a b : Nat} {ls : Array Slot} {rest st As : List Value} {G : dG} {J : mG} {cL : ClassId} {f : Nat → Int64} {y : MethodName} {bb : ByteArray} {ret : Option FieldType} {hh : List (Nat × Nat × Nat × Nat)} {o : Nat → Int32} {xs : Nat → Int32}
theorem wA_pA (hJ : a = G.2.2 + 100) {H9 : Heap} (hn : G.2.2 + 90 ≤ H9.size) : ∀ q : Nat, wA G a H9.size q → pA G q := fun q h => h.elim (dA_pA hn q) (fun e1 => by subst e1; show G.2.2 ≤ q; omega)
theorem mA_pA (hJ : J.2.2 = G.2.2 + 90) {n : Nat} (hn : G.2.2 ≤ n) : ∀ q : Nat, mA J n q → pA G q := by
  rintro q (⟨i, hi, rfl⟩ | h)
  · show G.2.2 ≤ ja J i; unfold ja; omega
  · show G.2.2 ≤ q; omega
theorem notmA (hJ : J.2.2 = G.2.2 + 90) (ha : a = G.2.2 + 100) {n : Nat} (hn : a < n) : ¬ mA J n a := by
  rintro (⟨i, hi, h⟩ | h)
  · unfold ja at h; omega
  · omega
theorem kZW {k : Int32} {v : Int64} (B : lB p s m args c G J cL a b xs) (hD : dM G nu0 H) (hM : mM J o H) (hO : oM G cL a f H) (hS : pS G s.heap H locs) (hl : ls.size = 9) (hc : wMet l y bb nY hh d G cL a As k v) (hyc : y.cls = RL) (hlink : Cond.methodLink RL index y ∈ allW) (mc : Cond.static y ∈ allW ∧ Cond.initialized RL ∈ allW ∧ Cond.codeWith y bb nY (some .int) hh ∈ allW ∧ (y.cls ≠ "java/lang/invoke/MethodHandle" ∧ y.cls ≠ "java/lang/invoke/VarHandle" ∧ (parseMethodDescriptor y.desc).map (fun d => d.parameters.length) = some As.length)) (hR : d + 8 ≤ R.frames ∧ 8 + (nY + 11) + (40 * d + 140) ≤ R.locals) (hcs : cells + 1 ≤ R.cells ∧ slots + 6 ≤ R.slots) (hstk : st = As.reverse ++ rest) (hst : (rest.map fun v => v.category).sum ≤ 8) (hdg : decode code pc = .ok (.invokestatic index, 3))
    (kk : ∀ (r : Int32) (f1 : Nat → Int64) (H1 : Heap) (locs1 : List Loc), r = k → (k = 0 → f1 0 = v) → mM J o H1 → oM G cL a f1 H1 → pS G s.heap H1 locs1 → W p l e R s m args below meth c H1 locs1 (cells + 1) (slots + 6) Q (F0 m (pc + 3) ls (.int r :: rest))) : W p l e R s m args below meth c H locs cells slots Q (F0 m pc ls st) := by
  subst hstk
  obtain ⟨X, hK, hOK, hE, hN, hJ, hA, -⟩ := B
  have hts := X.2.2.2.2.1
  obtain ⟨m1, m2, m3, m4, m5, m6⟩ := mc
  refine va_calli (vx_runSW (As := As) (rest := rest) ⟨X.1, X.2.1, X.2.2.1, X.2.2.2.1, X.2.2.2.2.1⟩ (hc H.size f) (n := As.length) ⟨⟨rfl, rfl, hR.1, hR.2, pay_in hts (goodIn_all (fun _ h => h) m3), List.mem_cons_self⟩, hts _ m3, hts _ (by rw [hyc]; exact m2), ⟨m4, m5⟩, fun sig h => by rw [h] at m6; exact (Option.some.inj m6).symm, hts _ hlink, hts _ m1⟩
    ⟨wPc_blind _ _ _ _ _ _, fun U hU hW => ⟨rfl, by rw [hU], by rw [hU]; exact hD, X.2.2.2.2.2.warm hW, by rw [hU]; exact hE.go hW hS, by rw [hU]; exact hO, va_K.moved hW.alike hOK, hN.moved hW.alike⟩⟩ rfl rfl hl rfl (lv_room hst) hdg hcs) hS (fun q _ h => wA_pA hA hD.end q h) (wA_pA hA hD.end) (fun r1 u t H1 locs1 ht hvm hw hB hz ho hS1 => ?_)
  rw [ht] at hB
  refine kk r1 u H1 locs1 hw.1 hw.2 (hM.keep fun i hi => ho _ (hM.lts hi) (fun h => h.elim (notdA (by unfold ja; omega) (hM.lts hi)) (fun h => by unfold ja at h; omega))) hB hS1
theorem kZM {P : Int32 → (Nat → Int32) → Prop} {k1 n1 : Nat} (B : lB p s m args c G J cL a b xs) (hM : mM J o H) (hO : oM G cL a f H) (hS : pS G s.heap H locs) (hl : ls.size = 9) (hc : mMet l y bb nY ret d k1 n1 J (.ref (ja J 0) :: As) o (fun sz => mQi J sz P)) (hqc : RX6 = y.cls) (hlink : Cond.methodLink RL index y ∈ allW) (mf : mfV y bb nY As.length ret) (hR : d + 1 ≤ R.frames ∧ 8 + (nY + 11) + 40 * d ≤ R.locals) (hcs : cells + k1 ≤ R.cells ∧ slots + n1 ≤ R.slots) (hstk : st = As.reverse ++ .ref (ja J 0) :: rest) (hst : (rest.map fun v => v.category).sum ≤ 8) (hdg : decode code pc = .ok (.invokevirtual index, 3))
    (kk : ∀ (r : Int32) (o' : Nat → Int32) (H1 : Heap) (locs1 : List Loc), P r o' → mM J o' H1 → oM G cL a f H1 → pS G s.heap H1 locs1 → W p l e R s m args below meth c H1 locs1 (cells + k1) (slots + n1) Q (F0 m (pc + 3) ls (.int r :: rest))) : W p l e R s m args below meth c H locs cells slots Q (F0 m pc ls st) := by
  subst hstk
  obtain ⟨X, hK, hOK, hE, hN, hJ, hA, -⟩ := B
  have hts := X.2.2.2.2.1
  obtain ⟨m1, m2, m3, m4, m5⟩ := mf
  obtain ⟨r0, hP0⟩ := id hM
  have hlt := hM.lt
  refine va_calli (va_runV (As := As) (rest := rest) ⟨X.1, X.2.1, X.2.2.1, X.2.2.2.1, X.2.2.2.2.1⟩ (hc H.size) ⟨callB_of As.length hts (goodIn_all (fun _ h => h) m4) rfl rfl rfl (hts _ m3) (hts _ hlink) m5 hR, hts _ m1, hts _ m2⟩
    ⟨mPc_blind _ _ _ _, by rw [← hqc]; exact va_recv hK hP0 (show mCl[0]? = some _ from rfl) (show (mW J o r0)[0]? = some _ from rfl), fun U hU hW => ⟨rfl, by rw [hU], by rw [hU]; exact hM, mK.warm hW hK⟩⟩ rfl rfl hl rfl (lv_room hst) hdg hcs) hS (fun q _ h => mA_pA hJ (by unfold ja at hlt; omega) q h) (mA_pA hJ (by unfold ja at hlt; omega)) (fun r1 u t H1 locs1 ht hvm hw hB hz ho hS1 => ?_)
  rw [ht] at hB
  exact kk r1 u H1 locs1 hw hB (hO.keep (ho a hO.lt (notmA hJ hA hO.lt))) hS1
theorem kZMl {P : Int64 → (Nat → Int32) → Prop} (B : lB p s m args c G J cL a b xs) (hM : mM J o H) (hO : oM G cL a f H) (hS : pS G s.heap H locs) (hl : ls.size = 9) (hc : mMet l y bb nY ret d 0 0 J (.ref (ja J 0) :: As) o (fun sz => mQl J sz P)) (hqc : RX6 = y.cls) (hlink : Cond.methodLink RL index y ∈ allW) (mf : mfV y bb nY As.length ret) (hR : d + 1 ≤ R.frames ∧ 8 + (nY + 11) + 40 * d ≤ R.locals) (hcs : cells + 0 ≤ R.cells ∧ slots + 0 ≤ R.slots) (hstk : st = As.reverse ++ .ref (ja J 0) :: rest) (hst : (rest.map fun v => v.category).sum ≤ 8) (hdg : decode code pc = .ok (.invokevirtual index, 3))
    (kk : ∀ (r : Int64) (o' : Nat → Int32) (H1 : Heap) (locs1 : List Loc), P r o' → mM J o' H1 → oM G cL a f H1 → pS G s.heap H1 locs1 → W p l e R s m args below meth c H1 locs1 (cells + 0) (slots + 0) Q (F0 m (pc + 3) ls (.long r :: rest))) : W p l e R s m args below meth c H locs cells slots Q (F0 m pc ls st) := by
  subst hstk
  obtain ⟨X, hK, hOK, hE, hN, hJ, hA, -⟩ := B
  have hts := X.2.2.2.2.1
  obtain ⟨m1, m2, m3, m4, m5⟩ := mf
  obtain ⟨r0, hP0⟩ := id hM
  have hlt := hM.lt
  refine va_calll (va_runV (As := As) (rest := rest) ⟨X.1, X.2.1, X.2.2.1, X.2.2.2.1, X.2.2.2.2.1⟩ (hc H.size) ⟨callB_of As.length hts (goodIn_all (fun _ h => h) m4) rfl rfl rfl (hts _ m3) (hts _ hlink) m5 hR, hts _ m1, hts _ m2⟩
    ⟨mPc_blind _ _ _ _, by rw [← hqc]; exact va_recv hK hP0 (show mCl[0]? = some _ from rfl) (show (mW J o r0)[0]? = some _ from rfl), fun U hU hW => ⟨rfl, by rw [hU], by rw [hU]; exact hM, mK.warm hW hK⟩⟩ rfl rfl hl rfl (lv_room hst) hdg hcs) hS (fun q _ h => mA_pA hJ (by unfold ja at hlt; omega) q h) (mA_pA hJ (by unfold ja at hlt; omega)) (fun r1 u t H1 locs1 ht hvm hw hB hz ho hS1 => ?_)
  rw [ht] at hB
  exact kk r1 u H1 locs1 hw hB (hO.keep (ho a hO.lt (notmA hJ hA hO.lt))) hS1
theorem kZMd {P : UInt64 → (Nat → Int32) → Prop} (B : lB p s m args c G J cL a b xs) (hM : mM J o H) (hO : oM G cL a f H) (hS : pS G s.heap H locs) (hl : ls.size = 9) (hc : mMet l y bb nY ret d 0 0 J (.ref (ja J 0) :: As) o (fun sz => mQd J sz P)) (hqc : RX6 = y.cls) (hlink : Cond.methodLink RL index y ∈ allW) (mf : mfV y bb nY As.length ret) (hR : d + 1 ≤ R.frames ∧ 8 + (nY + 11) + 40 * d ≤ R.locals) (hcs : cells + 0 ≤ R.cells ∧ slots + 0 ≤ R.slots) (hstk : st = As.reverse ++ .ref (ja J 0) :: rest) (hst : (rest.map fun v => v.category).sum ≤ 8) (hdg : decode code pc = .ok (.invokevirtual index, 3))
    (kk : ∀ (r : UInt64) (o' : Nat → Int32) (H1 : Heap) (locs1 : List Loc), P r o' → mM J o' H1 → oM G cL a f H1 → pS G s.heap H1 locs1 → W p l e R s m args below meth c H1 locs1 (cells + 0) (slots + 0) Q (F0 m (pc + 3) ls (.double r :: rest))) : W p l e R s m args below meth c H locs cells slots Q (F0 m pc ls st) := by
  subst hstk
  obtain ⟨X, hK, hOK, hE, hN, hJ, hA, -⟩ := B
  have hts := X.2.2.2.2.1
  obtain ⟨m1, m2, m3, m4, m5⟩ := mf
  obtain ⟨r0, hP0⟩ := id hM
  have hlt := hM.lt
  refine va_calld (va_runV (As := As) (rest := rest) ⟨X.1, X.2.1, X.2.2.1, X.2.2.2.1, X.2.2.2.2.1⟩ (hc H.size) ⟨callB_of As.length hts (goodIn_all (fun _ h => h) m4) rfl rfl rfl (hts _ m3) (hts _ hlink) m5 hR, hts _ m1, hts _ m2⟩
    ⟨mPc_blind _ _ _ _, by rw [← hqc]; exact va_recv hK hP0 (show mCl[0]? = some _ from rfl) (show (mW J o r0)[0]? = some _ from rfl), fun U hU hW => ⟨rfl, by rw [hU], by rw [hU]; exact hM, mK.warm hW hK⟩⟩ rfl rfl hl rfl (lv_room hst) hdg hcs) hS (fun q _ h => mA_pA hJ (by unfold ja at hlt; omega) q h) (mA_pA hJ (by unfold ja at hlt; omega)) (fun r1 u t H1 locs1 ht hvm hw hB hz ho hS1 => ?_)
  rw [ht] at hB
  exact kk r1 u H1 locs1 hw hB (hO.keep (ho a hO.lt (notmA hJ hA hO.lt))) hS1
theorem zKeep (hJ : J.2.2 = G.2.2 + 90) {H1 : Heap} (hM : mM J o H) (ho : ∀ q : Nat, q < H.size → ¬ dA G H.size q → H1[q]? = H[q]?) : mM J o H1 := hM.keep fun i hi => ho _ (hM.lts hi) (notdA (by unfold ja; omega) (hM.lts hi))
theorem kZD {P : Nat → Mm → Prop} (B : lB p s m args c G J cL a b xs) (hD : dM G nu0 H) (hM : mM J o H) (hO : oM G cL a f H) (hS : pS G s.heap H locs) (hl : ls.size = 9) (hc : cI l y bb nY ret d G (.ref (ra G 0) :: As) nu0 P) (hqc : RX5 = y.cls) (hlink : Cond.methodLink RL index y ∈ allW) (mf : mfV y bb nY As.length ret) (hR : d + 1 ≤ R.frames ∧ 8 + (nY + 11) + 40 * d ≤ R.locals) (hcs : cells ≤ R.cells ∧ slots ≤ R.slots) (hstk : st = As.reverse ++ .ref (ra G 0) :: rest) (hst : (rest.map fun v => v.category).sum ≤ 8) (hdg : decode code pc = .ok (.invokevirtual index, 3))
    (kk : ∀ (r : Nat) (ν' : Mm) (H1 : Heap) (locs1 : List Loc), P r ν' → mM J o H1 → oM G cL a f H1 → pS G s.heap H1 locs1 → W p l e R s m args below meth c H1 locs1 cells slots Q (F0 m (pc + 3) ls (.int (nI r) :: rest))) : W p l e R s m args below meth c H locs cells slots Q (F0 m pc ls st) := by
  subst hstk
  obtain ⟨X, hK, hOK, hE, hN, hJ, hA, -⟩ := B
  obtain ⟨m1, m2, m3, m4, m5⟩ := mf
  refine va_calli (va_runV (As := As) (rest := rest) ⟨X.1, X.2.1, X.2.2.1, X.2.2.2.1, X.2.2.2.2.1⟩ (hc H.size) ⟨kB X m3 m4 hlink m5 hR, X.2.2.2.2.1 _ m1, X.2.2.2.2.1 _ m2⟩ (kPreV X hD (by decide) (dE_desk G _) (show dkCl[5]? = some _ from rfl) hqc) rfl rfl hl rfl (lv_room hst) hdg hcs) hS (fun q _ h => dA_pA hD.end q h) (dA_pA hD.end) (fun r1 u t H1 locs1 ht hvm hw hB hz ho hS1 => ?_)
  rw [hw.1]
  exact kk u.1 u.2 H1 locs1 hw.2 (zKeep hJ hM ho) (hO.keep (ho a hO.lt (notdA (by omega) hO.lt))) hS1
theorem kZDl {v : Int64} (B : lB p s m args c G J cL a b xs) (hD : dM G nu0 H) (hM : mM J o H) (hO : oM G cL a f H) (hS : pS G s.heap H locs) (hl : ls.size = 9) (hc : cJ l y bb nY d G (.ref (ra G 0) :: As) v) (hqc : RX5 = y.cls) (hlink : Cond.methodLink RL index y ∈ allW) (mf : mfV y bb nY As.length (some .long)) (hR : d + 1 ≤ R.frames ∧ 8 + (nY + 11) + 40 * d ≤ R.locals) (hcs : cells ≤ R.cells ∧ slots ≤ R.slots) (hstk : st = As.reverse ++ .ref (ra G 0) :: rest) (hst : (rest.map fun v => v.category).sum ≤ 8) (hdg : decode code pc = .ok (.invokevirtual index, 3))
    (kk : ∀ (H1 : Heap) (locs1 : List Loc), mM J o H1 → oM G cL a f H1 → pS G s.heap H1 locs1 → W p l e R s m args below meth c H1 locs1 cells slots Q (F0 m (pc + 3) ls (.long v :: rest))) : W p l e R s m args below meth c H locs cells slots Q (F0 m pc ls st) := by
  subst hstk
  obtain ⟨X, hK, hOK, hE, hN, hJ, hA, -⟩ := B
  obtain ⟨m1, m2, m3, m4, m5⟩ := mf
  refine va_calll (va_runV (As := As) (rest := rest) ⟨X.1, X.2.1, X.2.2.1, X.2.2.2.1, X.2.2.2.2.1⟩ (hc H.size) ⟨kB X m3 m4 hlink m5 hR, X.2.2.2.2.1 _ m1, X.2.2.2.2.1 _ m2⟩ (kPreV X hD (by decide) (dE_desk G _) (show dkCl[5]? = some _ from rfl) hqc) rfl rfl hl rfl (lv_room hst) hdg hcs) hS (fun q _ h => dA_pA hD.end q h) (dA_pA hD.end) (fun r1 u t H1 locs1 ht hvm hw hB hz ho hS1 => ?_)
  rw [hw]
  exact kk H1 locs1 (zKeep hJ hM ho) (hO.keep (ho a hO.lt (notdA (by omega) hO.lt))) hS1
theorem kZDd {v : UInt64} (B : lB p s m args c G J cL a b xs) (hD : dM G nu0 H) (hM : mM J o H) (hO : oM G cL a f H) (hS : pS G s.heap H locs) (hl : ls.size = 9) (hc : cD l y bb nY d G (.ref (ra G 0) :: As) v) (hqc : RX5 = y.cls) (hlink : Cond.methodLink RL index y ∈ allW) (mf : mfV y bb nY As.length (some .double)) (hR : d + 1 ≤ R.frames ∧ 8 + (nY + 11) + 40 * d ≤ R.locals) (hcs : cells ≤ R.cells ∧ slots ≤ R.slots) (hstk : st = As.reverse ++ .ref (ra G 0) :: rest) (hst : (rest.map fun v => v.category).sum ≤ 8) (hdg : decode code pc = .ok (.invokevirtual index, 3))
    (kk : ∀ (H1 : Heap) (locs1 : List Loc), mM J o H1 → oM G cL a f H1 → pS G s.heap H1 locs1 → W p l e R s m args below meth c H1 locs1 cells slots Q (F0 m (pc + 3) ls (.double v :: rest))) : W p l e R s m args below meth c H locs cells slots Q (F0 m pc ls st) := by
  subst hstk
  obtain ⟨X, hK, hOK, hE, hN, hJ, hA, -⟩ := B
  obtain ⟨m1, m2, m3, m4, m5⟩ := mf
  refine va_calld (va_runV (As := As) (rest := rest) ⟨X.1, X.2.1, X.2.2.1, X.2.2.2.1, X.2.2.2.2.1⟩ (hc H.size) ⟨kB X m3 m4 hlink m5 hR, X.2.2.2.2.1 _ m1, X.2.2.2.2.1 _ m2⟩ (kPreV X hD (by decide) (dE_desk G _) (show dkCl[5]? = some _ from rfl) hqc) rfl rfl hl rfl (lv_room hst) hdg hcs) hS (fun q _ h => dA_pA hD.end q h) (dA_pA hD.end) (fun r1 u t H1 locs1 ht hvm hw hB hz ho hS1 => ?_)
  rw [hw]
  exact kk H1 locs1 (zKeep hJ hM ho) (hO.keep (ho a hO.lt (notdA (by omega) hO.lt))) hS1
/-- an int of the script; the long of the row -/
theorem z_sld {i : Nat} (B : lB p s m args c G J cL a b xs) (hS : pS G s.heap H locs) (hi : i < 6) (hdg : decode code pc = .ok (.iaload, 1))
    (kk : W p l e R s m args below meth c H locs cells slots Q (F0 m (pc + 1) ls (.int (xs i) :: rest))) : W p l e R s m args below meth c H locs cells slots Q (F0 m pc ls (.int (nI i) :: .ref b :: rest)) := by
  obtain ⟨X, -, -, -, -, -, -, hX, hb, hbA⟩ := B
  have hc : (nI i).toNatClampNeg = i := nI_clamp (by omega)
  refine va_sld X.1 X.2.1 hX hb hbA hS (vp_in_nI hi (by decide)) hdg ?_
  rw [hc]; exact kk
theorem z_lald (B : lB p s m args c G J cL a b xs) (hO : oM G cL a f H) {v : Int64} (hf : f 0 = v) (hdg : decode code pc = .ok (.laload, 1))
    (kk : W p l e R s m args below meth c H locs cells slots Q (F0 m (pc + 1) ls (.long v :: rest))) : W p l e R s m args below meth c H locs cells slots Q (F0 m pc ls (.int 0 :: .ref a :: rest)) := by
  subst hf
  have X := B.1
  exact va_lald (D := G.1) (n := 1) (f := f) X.1 X.2.1 B.2.2.1 hO 0 0 rfl rfl (vp_in_nI (n := 0) (by decide) (by decide)) hdg kk
theorem z_cmp {v w : Int64} (B : lB p s m args c G J cL a b xs) (h : v = w) (hdg : decode code pc = .ok (.lcmp, 1))
    (kk : W p l e R s m args below meth c H locs cells slots Q (F0 m (pc + 1) ls (.int 0 :: rest))) : W p l e R s m args below meth c H locs cells slots Q (F0 m pc ls (.long w :: .long v :: rest)) := by
  subst h
  refine W.lcmp B.1.1 B.1.2.1 hdg (r_as (b := 0) ?_ kk)
  simp [lg_cmp]
end RZ
theorem nu0_val : nI (pin nu0 1 255 10) = 0 := by decide +kernel
theorem nu0_best : nI (srch nu0 0).1 = 0 := by decide +kernel
theorem sw23 (z : Int32) : z = 0 ∨ z = 1 ∨ z = 2 ∨ z = 3 ∨ z = 4 ∨ z = 5 ∨ z = 6 ∨ z = 7 ∨ z = 8 ∨ z = 9 ∨ z = 10 ∨ z = 11 ∨ z = 12 ∨ z = 13 ∨ z = 14 ∨ z = 15 ∨ z = 16 ∨ z = 17 ∨ z = 18 ∨ z = 19 ∨ z = 20 ∨ z = 21 ∨ z = 22 ∨ (z.toInt < 0 ∨ 22 < z.toInt) := by
  have h : z.toInt = 0 ∨ z.toInt = 1 ∨ z.toInt = 2 ∨ z.toInt = 3 ∨ z.toInt = 4 ∨ z.toInt = 5 ∨ z.toInt = 6 ∨ z.toInt = 7 ∨ z.toInt = 8 ∨ z.toInt = 9 ∨ z.toInt = 10 ∨ z.toInt = 11 ∨ z.toInt = 12 ∨ z.toInt = 13 ∨ z.toInt = 14 ∨ z.toInt = 15 ∨ z.toInt = 16 ∨ z.toInt = 17 ∨ z.toInt = 18 ∨ z.toInt = 19 ∨ z.toInt = 20 ∨ z.toInt = 21 ∨ z.toInt = 22 ∨ (z.toInt < 0 ∨ 22 < z.toInt) := by omega
  rcases h with h | h | h | h | h | h | h | h | h | h | h | h | h | h | h | h | h | h | h | h | h | h | h | h
  · exact Or.inl (Int32.toInt_inj.mp (h.trans (show (0 : Int32).toInt = 0 by decide).symm))
  · exact Or.inr (Or.inl (Int32.toInt_inj.mp (h.trans (show (1 : Int32).toInt = 1 by decide).symm)))
  · exact Or.inr (Or.inr (Or.inl (Int32.toInt_inj.mp (h.trans (show (2 : Int32).toInt = 2 by decide).symm))))
  · exact Or.inr (Or.inr (Or.inr (Or.inl (Int32.toInt_inj.mp (h.trans (show (3 : Int32).toInt = 3 by decide).symm)))))
  · exact Or.inr (Or.inr (Or.inr (Or.inr (Or.inl (Int32.toInt_inj.mp (h.trans (show (4 : Int32).toInt = 4 by decide).symm))))))
  · exact Or.inr (Or.inr (Or.inr (Or.inr (Or.inr (Or.inl (Int32.toInt_inj.mp (h.trans (show (5 : Int32).toInt = 5 by decide).symm)))))))
  · exact Or.inr (Or.inr (Or.inr (Or.inr (Or.inr (Or.inr (Or.inl (Int32.toInt_inj.mp (h.trans (show (6 : Int32).toInt = 6 by decide).symm))))))))
  · exact Or.inr (Or.inr (Or.inr (Or.inr (Or.inr (Or.inr (Or.inr (Or.inl (Int32.toInt_inj.mp (h.trans (show (7 : Int32).toInt = 7 by decide).symm)))))))))
  · exact Or.inr (Or.inr (Or.inr (Or.inr (Or.inr (Or.inr (Or.inr (Or.inr (Or.inl (Int32.toInt_inj.mp (h.trans (show (8 : Int32).toInt = 8 by decide).symm))))))))))
  · exact Or.inr (Or.inr (Or.inr (Or.inr (Or.inr (Or.inr (Or.inr (Or.inr (Or.inr (Or.inl (Int32.toInt_inj.mp (h.trans (show (9 : Int32).toInt = 9 by decide).symm)))))))))))
  · exact Or.inr (Or.inr (Or.inr (Or.inr (Or.inr (Or.inr (Or.inr (Or.inr (Or.inr (Or.inr (Or.inl (Int32.toInt_inj.mp (h.trans (show (10 : Int32).toInt = 10 by decide).symm))))))))))))
  · exact Or.inr (Or.inr (Or.inr (Or.inr (Or.inr (Or.inr (Or.inr (Or.inr (Or.inr (Or.inr (Or.inr (Or.inl (Int32.toInt_inj.mp (h.trans (show (11 : Int32).toInt = 11 by decide).symm)))))))))))))
  · exact Or.inr (Or.inr (Or.inr (Or.inr (Or.inr (Or.inr (Or.inr (Or.inr (Or.inr (Or.inr (Or.inr (Or.inr (Or.inl (Int32.toInt_inj.mp (h.trans (show (12 : Int32).toInt = 12 by decide).symm))))))))))))))
  · exact Or.inr (Or.inr (Or.inr (Or.inr (Or.inr (Or.inr (Or.inr (Or.inr (Or.inr (Or.inr (Or.inr (Or.inr (Or.inr (Or.inl (Int32.toInt_inj.mp (h.trans (show (13 : Int32).toInt = 13 by decide).symm)))))))))))))))
  · exact Or.inr (Or.inr (Or.inr (Or.inr (Or.inr (Or.inr (Or.inr (Or.inr (Or.inr (Or.inr (Or.inr (Or.inr (Or.inr (Or.inr (Or.inl (Int32.toInt_inj.mp (h.trans (show (14 : Int32).toInt = 14 by decide).symm))))))))))))))))
  · exact Or.inr (Or.inr (Or.inr (Or.inr (Or.inr (Or.inr (Or.inr (Or.inr (Or.inr (Or.inr (Or.inr (Or.inr (Or.inr (Or.inr (Or.inr (Or.inl (Int32.toInt_inj.mp (h.trans (show (15 : Int32).toInt = 15 by decide).symm)))))))))))))))))
  · exact Or.inr (Or.inr (Or.inr (Or.inr (Or.inr (Or.inr (Or.inr (Or.inr (Or.inr (Or.inr (Or.inr (Or.inr (Or.inr (Or.inr (Or.inr (Or.inr (Or.inl (Int32.toInt_inj.mp (h.trans (show (16 : Int32).toInt = 16 by decide).symm))))))))))))))))))
  · exact Or.inr (Or.inr (Or.inr (Or.inr (Or.inr (Or.inr (Or.inr (Or.inr (Or.inr (Or.inr (Or.inr (Or.inr (Or.inr (Or.inr (Or.inr (Or.inr (Or.inr (Or.inl (Int32.toInt_inj.mp (h.trans (show (17 : Int32).toInt = 17 by decide).symm)))))))))))))))))))
  · exact Or.inr (Or.inr (Or.inr (Or.inr (Or.inr (Or.inr (Or.inr (Or.inr (Or.inr (Or.inr (Or.inr (Or.inr (Or.inr (Or.inr (Or.inr (Or.inr (Or.inr (Or.inr (Or.inl (Int32.toInt_inj.mp (h.trans (show (18 : Int32).toInt = 18 by decide).symm))))))))))))))))))))
  · exact Or.inr (Or.inr (Or.inr (Or.inr (Or.inr (Or.inr (Or.inr (Or.inr (Or.inr (Or.inr (Or.inr (Or.inr (Or.inr (Or.inr (Or.inr (Or.inr (Or.inr (Or.inr (Or.inr (Or.inl (Int32.toInt_inj.mp (h.trans (show (19 : Int32).toInt = 19 by decide).symm)))))))))))))))))))))
  · exact Or.inr (Or.inr (Or.inr (Or.inr (Or.inr (Or.inr (Or.inr (Or.inr (Or.inr (Or.inr (Or.inr (Or.inr (Or.inr (Or.inr (Or.inr (Or.inr (Or.inr (Or.inr (Or.inr (Or.inr (Or.inl (Int32.toInt_inj.mp (h.trans (show (20 : Int32).toInt = 20 by decide).symm))))))))))))))))))))))
  · exact Or.inr (Or.inr (Or.inr (Or.inr (Or.inr (Or.inr (Or.inr (Or.inr (Or.inr (Or.inr (Or.inr (Or.inr (Or.inr (Or.inr (Or.inr (Or.inr (Or.inr (Or.inr (Or.inr (Or.inr (Or.inr (Or.inl (Int32.toInt_inj.mp (h.trans (show (21 : Int32).toInt = 21 by decide).symm)))))))))))))))))))))))
  · exact Or.inr (Or.inr (Or.inr (Or.inr (Or.inr (Or.inr (Or.inr (Or.inr (Or.inr (Or.inr (Or.inr (Or.inr (Or.inr (Or.inr (Or.inr (Or.inr (Or.inr (Or.inr (Or.inr (Or.inr (Or.inr (Or.inr (Or.inl (Int32.toInt_inj.mp (h.trans (show (22 : Int32).toInt = 22 by decide).symm))))))))))))))))))))))))
  · exact Or.inr (Or.inr (Or.inr (Or.inr (Or.inr (Or.inr (Or.inr (Or.inr (Or.inr (Or.inr (Or.inr (Or.inr (Or.inr (Or.inr (Or.inr (Or.inr (Or.inr (Or.inr (Or.inr (Or.inr (Or.inr (Or.inr (Or.inr (h)))))))))))))))))))))))
