/-! ===== rows of the law's frames ===== -/
section RW8
variable {p : Program} {l : Launch} {e : Env} {R : Room} {s : State} {m : MethodId} {args : Array Value} {below : List Frame} {meth : Method} {c : Code} {H : Heap} {locs : List Loc} {cells slots : Nat} {Q : State → Prop}
variable {cc : ByteArray} {pc n nL nY d index : Nat} {ls : Array Slot} {rest st As : List Value} {own : String} {G : dG} {ν : Mm} {ws : va_W} {H0 : Heap} {y : MethodName} {b : ByteArray} {ret : Option FieldType}
theorem tn_sar {x z : Int32} (X : dC p s m args c cc n own G) (hdg : decode cc pc = .ok (.ishr, 1)) (k : ∀ w : Int32, W p l e R s m args below meth c H locs cells slots Q (F0 m (pc + 1) ls (.int w :: rest))) : W p l e R s m args below meth c H locs cells slots Q (F0 m pc ls (.int z :: .int x :: rest)) :=
  lv_ishr X.1 X.2.1 hdg (k _)
theorem tn_rem {a b : Nat} (X : dC p s m args c cc n own G) (hdg : decode cc pc = .ok (.irem, 1)) (ha : a < 2 ^ 31) (h0 : 0 < b) (hb : b < 2 ^ 31) (k : W p l e R s m args below meth c H locs cells slots Q (F0 m (pc + 1) ls (.int (nI (a % b)) :: rest))) : W p l e R s m args below meth c H locs cells slots Q (F0 m pc ls (.int (nI b) :: .int (nI a) :: rest)) :=
  lv_irem X.1 X.2.1 hdg (nI_ne0 h0 hb) (by rw [pk_rem ha h0 hb]; exact k)
theorem sPc_blind {Pre : State → Prop} (hp : ∀ (U : State) (g : JFrame) (mk : MethodId) (a : Array Value), Pre U → Pre (U.calling g mk a)) (av : List Value) : FrameBlind (sPc G Pre av) := fun a U g mk q => by
  obtain ⟨q0, q1, q2⟩ := q
  exact ⟨q0, q1.calling, hp U g mk a q2⟩
/-- a helper that changes nothing -/
theorem kLS {Pre : State → Prop} {P : Int32 → Prop} (hp : ∀ (U : State) (g : JFrame) (mk : MethodId) (a : Array Value), Pre U → Pre (U.calling g mk a)) (hpre : ∀ U : State, U.heap = H → s.WarmedH U.vm → Pre U) (X : dC p s m args c cc nL own G) (hM : xM G ν ws H) (hS : pS G H0 H locs) (hl : ls.size = nL) (hc : sI l y b nY d G As Pre P) (hlink : Cond.methodLink own index y ∈ allW) (mf : mfS y b nY As.length (some .int)) (hR : d + 1 ≤ R.frames ∧ 8 + (nY + 11) + 40 * d ≤ R.locals) (hcs : cells ≤ R.cells ∧ slots ≤ R.slots) (hstk : st = As.reverse ++ rest) (hst : (rest.map fun v => v.category).sum ≤ 8) (hdg : decode cc pc = .ok (.invokestatic index, 3))
    (kk : ∀ (r : Int32) (H1 : Heap) (locs1 : List Loc), P r → xM G ν ws H1 → pS G H0 H1 locs1 → H.size ≤ H1.size → (∀ q : Nat, q < H.size → H1[q]? = H[q]?) → W p l e R s m args below meth c H1 locs1 cells slots Q (F0 m (pc + 3) ls (.int r :: rest))) : W p l e R s m args below meth c H locs cells slots Q (F0 m pc ls st) := by
  subst hstk
  obtain ⟨m1, m3, m4, m5⟩ := mf
  refine va_calli (va_runS (As := As) (rest := rest) ⟨X.1, X.2.1, X.2.2.1, X.2.2.2.1, X.2.2.2.2.1⟩ hc ⟨kB X m3 m4 hlink m5 hR, X.2.2.2.2.1 _ m1⟩ ⟨sPc_blind hp As, fun U hU hW => ⟨rfl, X.2.2.2.2.2.warm hW, hpre U hU hW⟩⟩ rfl rfl hl rfl (lv_room hst) hdg hcs) hS (fun q _ h => h.elim) (fun q h => h.elim) (fun r1 u t H1 locs1 ht hvm hw hB hz ho hS1 => ?_)
  exact kk r1 H1 locs1 hw (hM.same hz fun q hq => ho q hq (fun h => h)) hS1 hz (fun q hq => ho q hq (fun h => h))
theorem dA_pA {H : Heap} (h : G.2.2 + 90 ≤ H.size) : ∀ q : Nat, dA G H.size q → pA G q := by
  rintro q (⟨i, hi, rfl⟩ | h1)
  · exact pA_ra G i
  · show G.2.2 ≤ q; omega
/-- a call of the desk's -/
theorem kLD {P : Nat → Mm → Prop} (X : dC p s m args c cc nL own G) (hM : xM G ν ws H) (hS : pS G H0 H locs) (hl : ls.size = nL) (hc : cI l y b nY ret d G (.ref (ra G 0) :: As) ν P) (hqc : RX5 = y.cls) (hlink : Cond.methodLink own index y ∈ allW) (mf : mfV y b nY As.length ret) (hR : d + 1 ≤ R.frames ∧ 8 + (nY + 11) + 40 * d ≤ R.locals) (hcs : cells ≤ R.cells ∧ slots ≤ R.slots) (hstk : st = As.reverse ++ .ref (ra G 0) :: rest) (hst : (rest.map fun v => v.category).sum ≤ 8) (hdg : decode cc pc = .ok (.invokevirtual index, 3))
    (kk : ∀ (r : Nat) (ν' : Mm) (H1 : Heap) (locs1 : List Loc), P r ν' → xM G ν' ws H1 → pS G H0 H1 locs1 → W p l e R s m args below meth c H1 locs1 cells slots Q (F0 m (pc + 3) ls (.int (nI r) :: rest))) : W p l e R s m args below meth c H locs cells slots Q (F0 m pc ls st) := by
  subst hstk
  obtain ⟨m1, m2, m3, m4, m5⟩ := mf
  refine va_calli (va_runV (As := As) (rest := rest) ⟨X.1, X.2.1, X.2.2.1, X.2.2.2.1, X.2.2.2.2.1⟩ (hc H.size) ⟨kB X m3 m4 hlink m5 hR, X.2.2.2.2.1 _ m1, X.2.2.2.2.1 _ m2⟩ (kPreV X hM.1 (by decide) (dE_desk G _) (show dkCl[5]? = some _ from rfl) hqc) rfl rfl hl rfl (lv_room hst) hdg hcs) hS (fun q _ h => dA_pA hM.2.2.2.2 q h) (dA_pA hM.2.2.2.2) (fun r1 u t H1 locs1 ht hvm hw hB hz ho hS1 => ?_)
  rw [ht] at hB
  rw [hw.1]
  exact kk u.1 u.2 H1 locs1 hw.2 (hM.keep hB hz ho) hS1
/-- a static method of the JDK's over the desk's memory -/
theorem kLJ {P : Nat → Mm → Prop} (X : dC p s m args c cc nL own G) (hM : xM G ν ws H) (hS : pS G H0 H locs) (hl : ls.size = nL) (hc : cI l y b nY ret d G As ν P) (hlink : Cond.methodLink own index y ∈ allW) (mf : mfS y b nY As.length ret) (hR : d + 1 ≤ R.frames ∧ 8 + (nY + 11) + 40 * d ≤ R.locals) (hcs : cells ≤ R.cells ∧ slots ≤ R.slots) (hstk : st = As.reverse ++ rest) (hst : (rest.map fun v => v.category).sum ≤ 8) (hdg : decode cc pc = .ok (.invokestatic index, 3))
    (kk : ∀ (r : Nat) (ν' : Mm) (H1 : Heap) (locs1 : List Loc), P r ν' → xM G ν' ws H1 → pS G H0 H1 locs1 → W p l e R s m args below meth c H1 locs1 cells slots Q (F0 m (pc + 3) ls (.int (nI r) :: rest))) : W p l e R s m args below meth c H locs cells slots Q (F0 m pc ls st) := by
  subst hstk
  obtain ⟨m1, m3, m4, m5⟩ := mf
  refine va_calli (va_runS (As := As) (rest := rest) ⟨X.1, X.2.1, X.2.2.1, X.2.2.2.1, X.2.2.2.2.1⟩ (hc H.size) ⟨kB X m3 m4 hlink m5 hR, X.2.2.2.2.1 _ m1⟩ (kPreS X hM.1) rfl rfl hl rfl (lv_room hst) hdg hcs) hS (fun q _ h => dA_pA hM.2.2.2.2 q h) (dA_pA hM.2.2.2.2) (fun r1 u t H1 locs1 ht hvm hw hB hz ho hS1 => ?_)
  rw [ht] at hB
  rw [hw.1]
  exact kk u.1 u.2 H1 locs1 hw.2 (hM.keep hB hz ho) hS1
/-- places of the law's own arrays -/
theorem x_iald {q N j a : Nat} {r : Nat → Nat} (X : dC p s m args c cc n own G) (hM : xM G ν ws H) (hE : ws[q]? = some (a, aI G N r)) (hj : j < N) (hN : N < 2 ^ 31) (hdg : decode cc pc = .ok (.iaload, 1))
    (kk : W p l e R s m args below meth c H locs cells slots Q (F0 m (pc + 1) ls (.int (nI (r j)) :: rest))) : W p l e R s m args below meth c H locs cells slots Q (F0 m pc ls (.int (nI j) :: .ref a :: rest)) := by
  obtain ⟨hx, hb, -, hown, hts, hK⟩ := X
  have hc : (nI j).toNatClampNeg = j := nI_clamp (by omega)
  refine va_iald (D := G.1) (cA := G.2.1.1) (n := N) (f := fun j => nI (r j)) hx hb hK.1 hM.2.1 q 0 hE rfl (vp_in_nI hj hN) hdg ?_
  rw [hc]
  exact kk
theorem x_iast {q N j a w : Nat} {r : Nat → Nat} {ws' : va_W} (X : dC p s m args c cc n own G) (hM : xM G ν ws H) (hS : pS G H0 H locs) (hE : ws[q]? = some (a, aI G N r)) (hj : j < N) (hN : N < 2 ^ 31) (hw : ws.set q (a, aI G N (va_up r j w)) = ws') (hdg : decode cc pc = .ok (.iastore, 1))
    (kk : ∀ (H1 : Heap) (locs1 : List Loc), xM G ν ws' H1 → pS G H0 H1 locs1 → W p l e R s m args below meth c H1 locs1 cells slots Q (F0 m (pc + 1) ls rest)) : W p l e R s m args below meth c H locs cells slots Q (F0 m pc ls (.int (nI w) :: .int (nI j) :: .ref a :: rest)) := by
  subst hw
  obtain ⟨hx, hb, -, hown, hts, hK⟩ := X
  obtain ⟨g1, g2, g3, g4, g5⟩ := hM
  have hc : (nI j).toNatClampNeg = j := nI_clamp (by omega)
  have ga := g4 q _ hE
  refine W.iast hx hb (g2 q _ hE) ((hK.1.2 0 _ rfl).1 N (fun k => .int (nI (r k)))) (fun q => by cases q) (by show ¬ (nI j < 0 ∨ (arrV _ _ _).slots.size ≤ _); rw [arrV_size]; exact vp_in_nI hj hN) rfl rfl hdg fun H1 e z oq => ?_
  have e1 : va_at G.1 dkCl (a, aI G N (va_up r j w)) H1 := by
    show H1[a]? = some (vp_cell _ _)
    rw [e]
    show some ((vp_cell G.2.1.1 (N, .inl (fun k => nI (r k)))).setSlot _ _) = _
    rw [hc, vp_cell_i, vp_cell_i, arrV_store]
    congr 2
    funext k
    by_cases hq : k = j
    · subst hq; simp [updV, va_up]
    · simp [updV, va_up, hq]
  refine kk H1 _ ⟨fun i hi => (g1 i hi).kept (oq _ (by have := ga.1; show ra G i ≠ a; unfold ra; omega)), g2.set g3 hE e1 oq, g3.set hE, fun k x hk => ?_, by rw [z]; exact g5⟩ (hS.put z oq (g3.2 q _ hE))
  rw [z]
  by_cases hkq : k = q
  · subst hkq
    have hlt : k < ws.length := (List.getElem?_eq_some_iff.mp hE).1
    rw [List.getElem?_set_self hlt] at hk
    obtain rfl := Option.some.inj hk
    exact ga
  · rw [List.getElem?_set_ne (Ne.symm hkq)] at hk
    exact g4 k x hk
theorem x_newI {N : Nat} {ws' : Nat → va_W} (X : dC p s m args c cc n own G) (hM : xM G ν ws H) (hS : pS G H0 H locs) (hN : N < 2 ^ 27) (hcells : cells + 1 ≤ R.cells) (hslots : slots + N ≤ R.slots) (hw : ∀ a : Nat, ws ++ [(a, aI G N (fun _ => 0))] = ws' a) (hdg : decode cc pc = .ok (.newarray .int, 2))
    (kk : ∀ (a : Nat) (H1 : Heap), xM G ν (ws' a) H1 → pS G H0 H1 locs → W p l e R s m args below meth c H1 locs (cells + 1) (slots + N) Q (F0 m (pc + 2) ls (.ref a :: rest))) : W p l e R s m args below meth c H locs cells slots Q (F0 m pc ls (.int (nI N) :: rest)) := by
  obtain ⟨hx, hb, -, hown, hts, hK⟩ := X
  refine va_newaK hx hb (atype := .int) (hts _ ka_int) rfl hdg rfl (nI_pos (by omega)) (nI_clamp (by omega)) (by show N * 4 ≤ 536870912; omega) hcells hslots rfl fun H1 cA e1 z1 o1 hAr hNm => ?_
  have hcA : cA = G.2.1.1 := by
    have h2 : s.vm.findClass ("[" ++ FieldType.int.toString) = some G.2.1.1 := (hK.1.2 0 _ rfl).2
    exact Option.some.inj (hNm.symm.trans h2)
  subst hcA
  have o2 : ∀ q : Nat, q < H.size → H1[q]? = H[q]? := fun q hq => o1 q hq
  have hM1 := hM.same (H1 := H1) (by omega) o2
  obtain ⟨g1, g2, g3, g4, g5⟩ := hM1
  refine kk H.size H1 ?_ (pS.grow hS (by omega) o2)
  rw [← hw]
  have h5 := hM.2.2.2.2
  refine ⟨g1, fun k x hk => ?_, ⟨fun i j x y hi hj exy => ?_, fun k x hk => ?_⟩, fun k x hk => ?_, by omega⟩
  · rcases Nat.lt_or_ge k ws.length with h | h
    · rw [List.getElem?_append_left h] at hk; exact g2 k x hk
    · rw [List.getElem?_append_right h] at hk
      have hk0 : k - ws.length = 0 := by
        have := (List.getElem?_eq_some_iff.mp hk).1
        simp at this; omega
      rw [hk0] at hk
      obtain rfl := Option.some.inj hk
      exact e1
  · rcases Nat.lt_or_ge i ws.length with hil | hil
    · rw [List.getElem?_append_left hil] at hi
      have hix := hM.2.2.2.1 i x hi
      rcases Nat.lt_or_ge j ws.length with hjl | hjl
      · rw [List.getElem?_append_left hjl] at hj
        exact g3.1 i j x y hi hj exy
      · rw [List.getElem?_append_right hjl] at hj
        have hk0 : j - ws.length = 0 := by
          have := (List.getElem?_eq_some_iff.mp hj).1
          simp at this; omega
        rw [hk0] at hj
        obtain rfl := Option.some.inj hj
        have e3 : x.1 = H.size := exy
        omega
    · rw [List.getElem?_append_right hil] at hi
      have hk0 : i - ws.length = 0 := by
        have := (List.getElem?_eq_some_iff.mp hi).1
        simp at this; omega
      rw [hk0] at hi
      obtain rfl := Option.some.inj hi
      rcases Nat.lt_or_ge j ws.length with hjl | hjl
      · rw [List.getElem?_append_left hjl] at hj
        have hjx := hM.2.2.2.1 j y hj
        have e3 : H.size = y.1 := exy
        omega
      · rw [List.getElem?_append_right hjl] at hj
        have hk1 : j - ws.length = 0 := by
          have := (List.getElem?_eq_some_iff.mp hj).1
          simp at this; omega
        omega
  · rcases Nat.lt_or_ge k ws.length with h | h
    · rw [List.getElem?_append_left h] at hk; exact g3.2 k x hk
    · rw [List.getElem?_append_right h] at hk
      have hk0 : k - ws.length = 0 := by
        have := (List.getElem?_eq_some_iff.mp hk).1
        simp at this; omega
      rw [hk0] at hk
      obtain rfl := Option.some.inj hk
      show G.2.2 ≤ H.size
      omega
  · rcases Nat.lt_or_ge k ws.length with h | h
    · rw [List.getElem?_append_left h] at hk; exact g4 k x hk
    · rw [List.getElem?_append_right h] at hk
      have hk0 : k - ws.length = 0 := by
        have := (List.getElem?_eq_some_iff.mp hk).1
        simp at this; omega
      rw [hk0] at hk
      obtain rfl := Option.some.inj hk
      show G.2.2 + 90 ≤ H.size ∧ H.size < H1.size
      omega
end RW8
