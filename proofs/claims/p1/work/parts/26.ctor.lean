/-! ===== making: the first k cells at the base ===== -/
def vAOA (U : State) : Prop := (Cond.arrayOver (.array .int)).before #[] U = true
theorem vAOA.moved {u U : State} (hvm : u.vm.Alike U.vm) (h : vAOA u) : vAOA U := by
  have h1 : (Cond.arrayOver (.array .int)).before #[] (u.setVm U.vm) = true := by rw [Cond.arrayOver_setVmC hvm]; exact h
  unfold vAOA
  unfold Cond.before Cond.holds at h1 ⊢
  simp only [Cond.value] at h1 ⊢
  exact h1
/-- what the tables say of rows of references -/
def NA (U : State) : Prop := va_AO RX0 U ∧ va_AO RX2 U ∧ vAOA U
theorem NA.moved {u U : State} (hvm : u.vm.Alike U.vm) (h : NA u) : NA U := ⟨h.1.moved hvm, h.2.1.moved hvm, h.2.2.moved hvm⟩
def pM (G : dG) (E : Nat → va_E) (k : Nat) (H : Heap) : Prop := H.size = G.2.2 + k ∧ ∀ i, i < k → va_at G.1 dkCl (ra G i, E i) H
def pA (G : dG) : Nat → Prop := fun q => G.2.2 ≤ q
abbrev pS (G : dG) (H0 H : Heap) (locs : List Loc) : Prop := va_S (pA G) H0 H locs
theorem pM.size {G : dG} {E : Nat → va_E} {k : Nat} {H : Heap} (h : pM G E k H) : H.size = ra G k := h.1
theorem pM.up {G : dG} {E : Nat → va_E} {k i : Nat} {e : va_E} {H H1 : Heap} (h : pM G E k H) (hi : i < k) (he : va_at G.1 dkCl (ra G i, e) H1) (z : H1.size = H.size) (o : ∀ q : Nat, q ≠ ra G i → H1[q]? = H[q]?) : pM G (va_up E i e) k H1 := by
  refine ⟨z.trans h.1, fun j hj => ?_⟩
  by_cases e1 : j = i
  · subst e1; rw [va_up_self]; exact he
  · rw [va_up_ne _ _ e1]
    exact (h.2 j hj).kept (o _ (fun q => e1 (ra_inj q)))
theorem pM.push {G : dG} {E : Nat → va_E} {k : Nat} {e : va_E} {H H1 : Heap} (h : pM G E k H) (he : va_at G.1 dkCl (ra G k, e) H1) (z : H1.size = H.size + 1) (o : ∀ q : Nat, q < H.size → H1[q]? = H[q]?) : pM G (va_up E k e) (k + 1) H1 := by
  refine ⟨by rw [z, h.1]; omega, fun j hj => ?_⟩
  by_cases e1 : j = k
  · subst e1; rw [va_up_self]; exact he
  · rw [va_up_ne _ _ e1]
    exact (h.2 j (by omega)).kept (o _ (by rw [h.1]; show ra G j < _; unfold ra; omega))
theorem pS.grow {G : dG} {H0 H H1 : Heap} {locs : List Loc} (h : pS G H0 H locs) (z : H.size ≤ H1.size) (o : ∀ q : Nat, q < H.size → H1[q]? = H[q]?) : pS G H0 H1 locs :=
  ⟨Nat.le_trans h.1 z, fun x h1 h2 => (o x (Nat.lt_of_lt_of_le h1 h.1)).trans (h.2.1 x h1 h2), h.2.2⟩
theorem pA_ra (G : dG) (i : Nat) : pA G (ra G i) := Nat.le_add_right _ _
theorem vs_outer (c : ClassId) (N h0 : Nat) : ∀ i : Nat, Jvm.Free.Multi.outerC c N h0 i = arrV c N (fun j => va_rf (if j < i then some (h0 + 1 + j) else none))
  | 0 => by
    show ({ cls := c, slots := Array.replicate N .null, vm := .none } : Cell) = _
    rw [arrV_new]
    refine congrArg (arrV c N) (funext fun j => ?_)
    simp [va_rf]
  | i + 1 => by
    show (Jvm.Free.Multi.outerC c N h0 i).setSlot i (.ref (h0 + 1 + i)) = _
    rw [vs_outer c N h0 i, arrV_store]
    refine congrArg (arrV c N) (funext fun j => ?_)
    by_cases e : j = i
    · subst e
      simp [updV, va_rf]
    · by_cases h : j < i
      · simp [updV, e, h, Nat.lt_succ_of_lt h]
      · simp [updV, e, h, show ¬ j < i + 1 by omega]
section RW6
variable {p : Program} {l : Launch} {e : Env} {R : Room} {s : State} {m : MethodId} {args : Array Value} {below : List Frame} {meth : Method} {c : Code} {H : Heap} {locs : List Loc} {cells slots : Nat} {Q : State → Prop}
variable {cc : ByteArray} {pc n : Nat} {ls : Array Slot} {rest : List Value} {own : String} {G : dG} {E : Nat → va_E} {k : Nat} {H0 : Heap}
theorem p_put {ref C : String} {T : u_T} {N ci index i : Nat} {fs fs' : List Value} {v : Value} {ty : FieldType} {ty0 : Nat → FieldType} (X : dC p s m args c cc n own G) (hP : pM G E k H) (hS : pS G H0 H locs) (hin : ∀ w ∈ u_ws C T N, w ∈ allW) (hty : ∀ k, k < N → parseFieldDescriptor (T k).2.2.1 = some (ty0 k)) (hnm : ∀ a, a < N → ∀ b, b < N → a ≠ b → (T a).2.1 ≠ (T b).2.1) (hi0 : i < k) (hE : E i = .inr (ci, fs)) (hc : dkCl[ci]? = some (C, T, N)) (f : Nat) (hf : f < N) (hlink : Cond.fieldLink own index ref (T f).2.1 (T f).2.2.1 ∈ allW) (hr : ref = (T f).1) (hfin : (T f).2.2.2 = false) (hd : parseFieldDescriptor (T f).2.2.1 = some ty) (hn : narrow ty v = v) (hfit : fits ty v = true) (hl : f < fs.length) (hfs : fs.set f v = fs')
    (hdg : decode cc pc = .ok (.putfield index, 3)) (kk : ∀ (H1 : Heap) (locs1 : List Loc), pM G (va_up E i (.inr (ci, fs'))) k H1 → pS G H0 H1 locs1 → W p l e R s m args below meth c H1 locs1 cells slots Q (F0 m (pc + 3) ls rest)) : W p l e R s m args below meth c H locs cells slots Q (F0 m pc ls (v :: .ref (ra G i) :: rest)) := by
  subst hfs
  obtain ⟨hx, hb, -, hown, hts, hK⟩ := X
  have hK := hK.1
  subst hr
  have hap := va_apart (own := own) hts hin ty0 hty hnm hK hc
  have h0 := hP.2 i hi0
  rw [hE] at h0
  obtain ⟨r, h1, cell, q1, q2, q3, q4⟩ := h0
  have hr : r = (C, T, N) := Option.some.inj (h1.symm.trans hc)
  subst hr
  obtain ⟨hSS, hfc, kC, hkC, hkind⟩ := hK.1 ci _ hc
  obtain ⟨cf, kf, fi, fd, hi, hsl⟩ := hSS f hf
  have hlay := hts _ (hin _ (u_in_lay hf))
  unfold u_lay at hlay
  rw [if_neg (by rw [hfin]; decide)] at hlay
  have hst := (u_facts hfc hkC (u_lays hts hin hf) hi).1
  have h6 := u_store hfc hkC hkind hlay hi hd hn hfit
  refine W.putK hx hb (f := fd) ⟨hown, hts _ hlink, ⟨_, _, _, hi⟩, hst⟩ (by rw [q2]; exact h6) q1 q3 (by rw [hsl]; exact k2_hasslot (q4 f hf)) rfl rfl hdg fun H' e1 e2 e3 => ?_
  rw [hsl] at e1 ⊢
  exact kk H' _ (hP.up hi0 ⟨_, hc, t_OB.to (V := updV (vp_V fs) f v) ⟨_, e1, q2, q3, t_set q4 hap hf v⟩ (fun j _ => vp_updV_set hl v j)⟩ e2 e3) (hS.put e2 e3 (pA_ra G i))
theorem p_putF {C : String} {T : u_T} {N ci index i : Nat} {fs fs' : List Value} {v : Value} {ty : FieldType} {ty0 : Nat → FieldType} (X : dC p s m args c cc n own G) (hini : meth.name = "<init>") (hP : pM G E k H) (hS : pS G H0 H locs) (hin : ∀ w ∈ u_ws C T N, w ∈ allW) (hty : ∀ k, k < N → parseFieldDescriptor (T k).2.2.1 = some (ty0 k)) (hnm : ∀ a, a < N → ∀ b, b < N → a ≠ b → (T a).2.1 ≠ (T b).2.1) (hi0 : i < k) (hE : E i = .inr (ci, fs)) (hc : dkCl[ci]? = some (C, T, N)) (f : Nat) (hf : f < N) (hlink : Cond.fieldLink own index (T f).1 (T f).2.1 (T f).2.2.1 ∈ allW) (hdecl : (T f).1 = own) (hfin : (T f).2.2.2 = true) (hd : parseFieldDescriptor (T f).2.2.1 = some ty) (hn : narrow ty v = v) (hfit : fits ty v = true) (hl : f < fs.length) (hfs : fs.set f v = fs')
    (hdg : decode cc pc = .ok (.putfield index, 3)) (kk : ∀ (H1 : Heap) (locs1 : List Loc), pM G (va_up E i (.inr (ci, fs'))) k H1 → pS G H0 H1 locs1 → W p l e R s m args below meth c H1 locs1 cells slots Q (F0 m (pc + 3) ls rest)) : W p l e R s m args below meth c H locs cells slots Q (F0 m pc ls (v :: .ref (ra G i) :: rest)) := by
  subst hfs
  obtain ⟨hx, hb, -, hown, hts, hK⟩ := X
  have hK := hK.1
  have hap := va_apart (own := own) hts hin ty0 hty hnm hK hc
  have h0 := hP.2 i hi0
  rw [hE] at h0
  obtain ⟨r, h1, cell, q1, q2, q3, q4⟩ := h0
  have hr : r = (C, T, N) := Option.some.inj (h1.symm.trans hc)
  subst hr
  obtain ⟨hSS, hfc, kC, hkC, hkind⟩ := hK.1 ci _ hc
  obtain ⟨cf, kf, fi, fd, hi, hsl⟩ := hSS f hf
  have hlay := hts _ (hin _ (u_in_lay hf))
  unfold u_lay at hlay
  rw [if_pos hfin] at hlay
  have hst := (u_facts hfc hkC (u_lays hts hin hf) hi).1
  have hcf : m.cls = cf := by
    obtain ⟨_, _, c', _, _, _, -, -, hf', -, -, -, hown2, -⟩ := Cond.laysFinal_spec hlay
    have e1 : c' = cf := by have := hi.symm.trans hf'; simp at this; exact this.1.symm
    rw [hdecl] at hown2
    rw [← e1]; exact Option.some.inj (hown.symm.trans hown2)
  have h6 := u_fits hfc hkC hkind (Or.inr hlay) hi hd hn hfit
  refine W.putFinK hx hb hown (hts _ hlink) hi hst hcf hini (by rw [q2]; exact h6) q1 q3 (by rw [hsl]; exact k2_hasslot (q4 f hf)) rfl rfl hdg fun H' e1 e2 e3 => ?_
  rw [hsl] at e1 ⊢
  exact kk H' _ (hP.up hi0 ⟨_, hc, t_OB.to (V := updV (vp_V fs) f v) ⟨_, e1, q2, q3, t_set q4 hap hf v⟩ (fun j _ => vp_updV_set hl v j)⟩ e2 e3) (hS.put e2 e3 (pA_ra G i))
theorem p_new {C : String} {T : u_T} {N ci index : Nat} {fs : List Value} {ty : Nat → FieldType} (X : dC p s m args c cc n own G) (hP : pM G E k H) (hS : pS G H0 H locs) (hin : ∀ w ∈ u_ws C T N, w ∈ allW) (hty : ∀ k, k < N → parseFieldDescriptor (T k).2.2.1 = some (ty k)) (hcl : Cond.classLink own index C ∈ allW) (hinst : Cond.instantiable C N ∈ allW) (hini : Cond.initialized C ∈ allW) (hc : dkCl[ci]? = some (C, T, N)) (hfs : ∀ j, j < N → defaultValue (ty j) = vp_V fs j) (hcells : cells + 1 ≤ R.cells) (hslots : slots + N ≤ R.slots) (hdg : decode cc pc = .ok (.new index, 3))
    (kk : ∀ (H1 : Heap), pM G (va_up E k (.inr (ci, fs))) (k + 1) H1 → pS G H0 H1 locs → W p l e R s m args below meth c H1 locs (cells + 1) (slots + N) Q (F0 m (pc + 3) ls (.ref (ra G k) :: rest))) : W p l e R s m args below meth c H locs cells slots Q (F0 m pc ls rest) := by
  obtain ⟨hx, hb, -, hown, hts, hK⟩ := X
  have hKn := hK.1.1 ci _ hc
  refine W.newcK hx hb hown (hts _ hcl) (hts _ hinst) (hts _ hini) rfl hdg hcells hslots hKn.2.1 hP.size fun H1 kC hkC e1 z1 o1 => ?_
  have o2 : ∀ q : Nat, q < H.size → H1[q]? = H[q]? := fun q hq => o1 q (by rw [← hP.size]; exact hq)
  exact kk H1 (hP.push ⟨_, hc, (u_born ty hts hin hKn hkC e1 hty).to hfs⟩ (by rw [z1, hP.size]) o2) (pS.grow hS (by rw [z1, hP.size]; omega) o2)
theorem p_newI {N : Nat} (X : dC p s m args c cc n own G) (hP : pM G E k H) (hS : pS G H0 H locs) (harr : Cond.arrayClass .int ∈ allW) (hN : N < 2 ^ 27) (hcells : cells + 1 ≤ R.cells) (hslots : slots + N ≤ R.slots) (hdg : decode cc pc = .ok (.newarray .int, 2))
    (kk : ∀ (H1 : Heap), pM G (va_up E k (aI G N (fun _ => 0))) (k + 1) H1 → pS G H0 H1 locs → W p l e R s m args below meth c H1 locs (cells + 1) (slots + N) Q (F0 m (pc + 2) ls (.ref (ra G k) :: rest))) : W p l e R s m args below meth c H locs cells slots Q (F0 m pc ls (.int (nI N) :: rest)) := by
  obtain ⟨hx, hb, -, hown, hts, hK⟩ := X
  refine va_newaK hx hb (atype := .int) (hts _ harr) rfl hdg rfl (nI_pos (by omega)) (nI_clamp (by omega)) (by show N * 4 ≤ 536870912; omega) hcells hslots hP.size fun H1 cA e1 z1 o1 hAr hNm => ?_
  have hcA : cA = G.2.1.1 := by
    have h2 : s.vm.findClass ("[" ++ FieldType.int.toString) = some G.2.1.1 := (hK.1.2 0 _ rfl).2
    exact Option.some.inj (hNm.symm.trans h2)
  subst hcA
  have o2 : ∀ q : Nat, q < H.size → H1[q]? = H[q]? := fun q hq => o1 q (by rw [← hP.size]; exact hq)
  exact kk H1 (hP.push e1 (by rw [z1, hP.size]) o2) (pS.grow hS (by rw [z1, hP.size]; omega) o2)
theorem p_newq {C : String} {index N t0 : Nat} {cA : ClassId} (X : dC p s m args c cc n own G) (hP : pM G E k H) (hS : pS G H0 H locs) (hcl : Cond.classLink own index C ∈ allW) (hao : va_AO C s) (ht : (dT G)[t0]? = some (cA, .object C)) (hN : N < 2 ^ 27) (hcells : cells + 1 ≤ R.cells) (hslots : slots + N ≤ R.slots) (hdg : decode cc pc = .ok (.anewarray index, 3))
    (kk : ∀ (H1 : Heap), pM G (va_up E k (.inl (cA, N, .inr (.inr (.inr (.inr (fun _ => none))))))) (k + 1) H1 → pS G H0 H1 locs → W p l e R s m args below meth c H1 locs (cells + 1) (slots + N) Q (F0 m (pc + 3) ls (.ref (ra G k) :: rest))) : W p l e R s m args below meth c H locs cells slots Q (F0 m pc ls (.int (nI N) :: rest)) := by
  obtain ⟨hx, hb, -, hown, hts, hK⟩ := X
  have hc : (nI N).toNatClampNeg = N := nI_clamp (by omega)
  refine W.anew hx hb hown (hts _ hcl) (va_AO.use hao) rfl hdg rfl (nI_pos (by omega)) (by rw [hc]; omega) hcells (by rw [hc]; exact hslots) fun cA' kA comp f1 f2 f3 f4 => ?_
  have hcA : cA' = cA := by
    obtain ⟨kA2, comp2, k1, k2, k3, k4⟩ := (hK.1.2 t0 _ ht).2
    exact Option.some.inj (f1.symm.trans k4)
  subst hcA
  rw [hc]
  generalize hH1 : H.push ({ cls := cA', slots := Array.replicate N .null, vm := .none } : Cell) = H1
  have z1 : H1.size = H.size + 1 := by rw [← hH1, Array.size_push]
  have e1 : H1[H.size]? = some (arrV cA' N (fun _ => .null)) := by rw [← hH1, Array.getElem?_push_size, ← arrV_new]
  have o1 : ∀ q : Nat, q < H.size → H1[q]? = H[q]? := fun q hq => by rw [← hH1, Array.getElem?_push, if_neg (Nat.ne_of_lt hq)]
  have es := hP.size
  rw [es] at e1 ⊢
  exact kk H1 (hP.push e1 z1 o1) (pS.grow hS (by omega) o1)
/-- new int[N][K] -/
theorem p_mna {index N K : Nat} (X : dC p s m args c cc n own G) (hP : pM G E k H) (hS : pS G H0 H locs) (hcl : Cond.classLink own index "[[I" ∈ allW) (hao : vAOA s) (harr : Cond.arrayClass .int ∈ allW) (hN : N < 2 ^ 27) (hKK : K < 2 ^ 27) (hcells : cells + (1 + N) ≤ R.cells) (hslots : slots + (N + N * K) ≤ R.slots) (hdg : decode cc pc = .ok (.multianewarray index 2, 4))
    (kk : ∀ (H1 : Heap), pM G (fun i => if i < k then E i else if i = k then .inl (G.2.1.2.2.2, N, .inr (.inr (.inr (.inr (fun j => if j < N then some (ra G (k + 1 + j)) else none))))) else aI G K (fun _ => 0)) (k + 1 + N) H1 → pS G H0 H1 locs → W p l e R s m args below meth c H1 locs (cells + 1 + N) (slots + N + N * K) Q (F0 m (pc + 4) ls (.ref (ra G k) :: rest))) : W p l e R s m args below meth c H locs cells slots Q (F0 m pc ls (.int (nI K) :: .int (nI N) :: rest)) := by
  obtain ⟨hx, hb, -, hown, hts, hK⟩ := X
  have hcN : (nI N).toNatClampNeg = N := nI_clamp (by omega)
  have hcK : (nI K).toNatClampNeg = K := nI_clamp (by omega)
  intro T hT Xs
  obtain ⟨vm₁, cA, comp, -, fA, fC, hO, -, X', step⟩ := Xs.multianewarray2F hx (index := index) (ty := .int) hown (hts _ hcl) (show (Cond.arrayOver (.array .int)).before args s = true from hao) (hts _ harr) (g := F0 m pc ls (.int (nI K) :: .int (nI N) :: rest)) rfl (by rw [hb]; exact hdg) rfl (nI_pos (by omega)) (nI_pos (by omega)) (by rw [hcN]; omega) (by rw [hcK]; show K * 4 ≤ _; omega) (by rw [hcK]; omega) rfl rfl (by rw [hcN]; exact hcells) (by rw [hcN, hcK]; exact hslots)
  rw [hcN, hcK] at X' step
  have e1 : comp = G.2.1.1 := Option.some.inj (fC.symm.trans (hK.1.2 0 _ rfl).2)
  have e2 : cA = G.2.1.2.2.2 := Option.some.inj (fA.symm.trans (hK.1.2 3 _ rfl).2)
  subst e1
  subst e2
  generalize hF : Jvm.Free.Multi.fill (T.setVm vm₁) G.2.1.2.2.2 G.2.1.1 N K (defaultValue .int) N = F at X' step
  have hTh : (T.setVm vm₁).heap = H := hT
  obtain ⟨f1, f2, -, -⟩ := Jvm.Free.Multi.fill_facts (T.setVm vm₁) G.2.1.2.2.2 G.2.1.1 N K (defaultValue .int) N
  rw [hF, hTh] at f1 f2
  have hold : ∀ x : Nat, x < H.size → F.heap[x]? = H[x]? := fun x hx => by
    have := Jvm.Free.Multi.fill_old (T.setVm vm₁) G.2.1.2.2.2 G.2.1.1 N K (defaultValue .int) (a := x) (by rw [hTh]; exact hx) N
    rw [hF, hTh] at this
    exact this
  have hrow : ∀ j : Nat, j < N → F.heap[H.size + 1 + j]? = some (Jvm.Free.Multi.innerC G.2.1.1 K (defaultValue .int)) := fun j hj => by
    have := Jvm.Free.Multi.fill_inner (T.setVm vm₁) G.2.1.2.2.2 G.2.1.1 N K (defaultValue .int) N j hj
    rw [hF, hTh] at this
    exact this
  have hin : Jvm.Free.Multi.innerC G.2.1.1 K (defaultValue .int) = vp_cell G.2.1.1 (K, .inl (fun _ => nI 0)) := by
    rw [vp_cell_i, ← arrV_new]; rfl
  have hout : Jvm.Free.Multi.outerC G.2.1.2.2.2 N H.size N = vp_cell G.2.1.2.2.2 (N, .inr (.inr (.inr (.inr (fun j => if j < N then some (H.size + 1 + j) else none))))) := by
    rw [vp_cell_q]
    exact vs_outer G.2.1.2.2.2 N H.size N
  have es := hP.size
  obtain ⟨t, a1, b1⟩ := kk F.heap ⟨by rw [f1, hP.1]; omega, fun i hi => by
      by_cases c1 : i < k
      · simp only [if_pos c1]
        exact (hP.2 i c1).kept (hold _ (by rw [hP.1]; show ra G i < _; unfold ra; omega))
      · by_cases c2 : i = k
        · subst c2
          simp only [Nat.lt_irrefl, if_false, if_true]
          rw [hout, es] at f2
          have e9 : (fun j => if j < N then some (ra G i + 1 + j) else none) = (fun j => if j < N then some (ra G (i + 1 + j)) else none) := by
            funext j; unfold ra; split
            · congr 1; omega
            · rfl
          rw [e9] at f2
          exact f2
        · simp only [if_neg c1, if_neg c2]
          have h9 := hrow (i - k - 1) (by omega)
          rw [hin, es, show ra G k + 1 + (i - k - 1) = ra G i by unfold ra; omega] at h9
          exact h9⟩ (pS.grow hS (by rw [f1]; omega) hold) F rfl X'
  refine ⟨t, step t ?_, b1⟩
  have e : T.heap.size = ra G k := by rw [hT]; exact es
  rw [e]
  exact a1
/-- a place of a row of references is written -/
theorem p_aast {i q N j ci t0 : Nat} {cA : ClassId} {r : vw_C} {vs : List Value} {f : Nat → Option Nat} (X : dC p s m args c cc n own G) (hP : pM G E k H) (hS : pS G H0 H locs) (hi : i < k) (hq : q < k) (hE : E i = .inl (cA, N, .inr (.inr (.inr (.inr f))))) (hE2 : E q = .inr (ci, vs)) (ht : (dT G)[t0]? = some (cA, .object r.1)) (hc : dkCl[ci]? = some r) (hj : j < N) (hN : N < 2 ^ 31) (hdg : decode cc pc = .ok (.aastore, 1))
    (kk : ∀ (H1 : Heap) (locs1 : List Loc), pM G (va_up E i (.inl (cA, N, .inr (.inr (.inr (.inr (va_up f j (some (ra G q)))))))))  k H1 → pS G H0 H1 locs1 → W p l e R s m args below meth c H1 locs1 cells slots Q (F0 m (pc + 1) ls rest)) : W p l e R s m args below meth c H locs cells slots Q (F0 m pc ls (.ref (ra G q) :: .int (nI j) :: .ref (ra G i) :: rest)) := by
  obtain ⟨hx, hb, -, hown, hts, hK⟩ := X
  have hK := hK.1
  have hcj : (nI j).toNatClampNeg = j := nI_clamp (by omega)
  have h1 := hP.2 i hi
  rw [hE] at h1
  have h2 := hP.2 q hq
  rw [hE2] at h2
  obtain ⟨r', hr', cellV, g1, g2, g3, -⟩ := h2
  have hcls := (hK.1 ci r hc).2
  obtain ⟨kA, comp, k1, k2, k3, -⟩ := (hK.2 t0 _ ht).2
  have hcomp : comp = G.1.1 ci := Option.some.inj (k3.symm.trans hcls.1)
  subst hcomp
  obtain ⟨kC, hkC, -⟩ := hcls.2
  have h1 : H[ra G i]? = some (vp_cell cA (N, .inr (.inr (.inr (.inr f))))) := h1
  refine W.aast hx hb h1 (fun q h => by cases h) (fun h => by cases h) k1 k2 rfl hkC ⟨nI_pos (by omega), by show _ < (arrV _ _ _).slots.size; rw [arrV_size, hcj]; exact hj⟩ g1 (fun q h => by rw [g3] at h; cases h) (by rw [g2]; exact hkC) (by rw [g2]; exact va_assign hcls) rfl rfl hdg fun H1 e z oq => ?_
  refine kk H1 _ (hP.up hi ?_ z oq) (hS.put z oq (pA_ra G i))
  show H1[ra G i]? = some (vp_cell _ _)
  rw [e, hcj]
  rw [vp_cell_q, vp_cell_q, arrV_store]
  congr 2
  funext z
  by_cases hz : z = j
  · subst hz
    simp [updV, va_up, va_rf]
  · simp [updV, va_up, hz]
end RW6
