/-! ===== rows over the memory ===== -/
/-- the start's heap is H0; what is written since lies among the desk's cells or is new -/
abbrev dS (G : dG) (H0 H : Heap) (locs : List Loc) : Prop := va_S (dA G H0.size) H0 H locs
section RW1
variable {p : Program} {l : Launch} {e : Env} {R : Room} {s : State} {m : MethodId} {args : Array Value} {below : List Frame} {meth : Method} {c : Code} {H : Heap} {locs : List Loc} {cells slots : Nat} {Q : State → Prop}
variable {cc : ByteArray} {pc n : Nat} {ls : Array Slot} {rest : List Value} {own : String} {G : dG} {ν : Mm} {H0 : Heap}
/-- a field is read -/
theorem m_get {ref C : String} {T : u_T} {N ci index i : Nat} {fs : List Value} {v : Value} (X : dC p s m args c cc n own G) (hM : dM G ν H) (hin : ∀ w ∈ u_ws C T N, w ∈ allW) (hi : i < 90) (hE : dE G i (ν i) = .inr (ci, fs)) (hc : dkCl[ci]? = some (C, T, N)) (k : Nat) (hk : k < N) (hlink : Cond.fieldLink own index ref (T k).2.1 (T k).2.2.1 ∈ allW) (hr : ref = (T k).1) (hv : fs[k]? = some v) (hdg : decode cc pc = .ok (.getfield index, 3))
    (kk : W p l e R s m args below meth c H locs cells slots Q (F0 m (pc + 3) ls (v :: rest))) : W p l e R s m args below meth c H locs cells slots Q (F0 m pc ls (.ref (ra G i) :: rest)) := by
  obtain ⟨hx, hb, -, hown, hts, hK⟩ := X
  subst hr
  exact va_get (D := G.1) (ci := ci) (C := C) (T := T) (N := N) hx hb hts hin hown hK.1 hM.P i ((wl_get hi).trans (by rw [hE])) hc k hk (hts _ hlink) (fun _ h => h) hv hdg kk
theorem m_getN {ref C host : String} {T : u_T} {N ci index i : Nat} {fs : List Value} {v : Value} (X : dC p s m args c cc n own G) (hM : dM G ν H) (hin : ∀ w ∈ u_ws C T N, w ∈ allW) (hi : i < 90) (hE : dE G i (ν i) = .inr (ci, fs)) (hc : dkCl[ci]? = some (C, T, N)) (k : Nat) (hk : k < N) (hlink : Cond.fieldLinkNest own index ref (T k).2.1 (T k).2.2.1 host ∈ nestW) (hr : ref = (T k).1) (hv : fs[k]? = some v) (hdg : decode cc pc = .ok (.getfield index, 3))
    (kk : W p l e R s m args below meth c H locs cells slots Q (F0 m (pc + 3) ls (v :: rest))) : W p l e R s m args below meth c H locs cells slots Q (F0 m pc ls (.ref (ra G i) :: rest)) := by
  obtain ⟨hx, hb, -, hown, hts, hK⟩ := X
  subst hr
  exact va_getN (D := G.1) (ci := ci) (C := C) (T := T) (N := N) hx hb hts hin hown hK.1 hM.P i ((wl_get hi).trans (by rw [hE])) hc k hk (va_Nw.use rfl (hK.2 _ hlink)) (fun _ h => h) hv hdg kk
/-- a field is written -/
theorem m_put {ref C : String} {T : u_T} {N ci index i w : Nat} {fs : List Value} {ty0 : Nat → FieldType} (X : dC p s m args c cc n own G) (hM : dM G ν H) (hS : dS G H0 H locs) (hin : ∀ w ∈ u_ws C T N, w ∈ allW) (hty : ∀ k, k < N → parseFieldDescriptor (T k).2.2.1 = some (ty0 k)) (hnm : ∀ a, a < N → ∀ b, b < N → a ≠ b → (T a).2.1 ≠ (T b).2.1) (hi : i < 90) (hE : dE G i (ν i) = .inr (ci, fs)) (hc : dkCl[ci]? = some (C, T, N)) (k : Nat) (hk : k < N) (hlink : Cond.fieldLink own index ref (T k).2.1 (T k).2.2.1 ∈ allW) (hr : ref = (T k).1) (hfin : (T k).2.2.2 = false) (hd : parseFieldDescriptor (T k).2.2.1 = some .int) (hl : k < fs.length) (hE' : dE G i (va_up (ν i) k w) = .inr (ci, fs.set k (.int (nI w))))
    (hdg : decode cc pc = .ok (.putfield index, 3)) (kk : ∀ (H1 : Heap) (locs1 : List Loc), dM G (up2 ν i k w) H1 → dS G H0 H1 locs1 → W p l e R s m args below meth c H1 locs1 cells slots Q (F0 m (pc + 3) ls rest)) : W p l e R s m args below meth c H locs cells slots Q (F0 m pc ls (.int (nI w) :: .ref (ra G i) :: rest)) := by
  obtain ⟨hx, hb, -, hown, hts, hK⟩ := X
  subst hr
  refine va_put (D := G.1) (ci := ci) (C := C) (T := T) (N := N) (ty := .int) hx hb hts hin ty0 hty hnm hown hK.1 hM.P wl_D hS i ((wl_get hi).trans (by rw [hE])) hc k hk (hts _ hlink) (fun _ h => h) hfin hd rfl rfl hl hdg (fun H1 locs1 hP _ hS1 => kk H1 locs1 (dM_set hi hP ?_ ?_) hS1)
  · rw [up2_row]; exact hE'
  · intro k hk; exact up2_ne hk
theorem m_putN {ref C host : String} {T : u_T} {N ci index i w : Nat} {fs : List Value} {ty0 : Nat → FieldType} (X : dC p s m args c cc n own G) (hM : dM G ν H) (hS : dS G H0 H locs) (hin : ∀ w ∈ u_ws C T N, w ∈ allW) (hty : ∀ k, k < N → parseFieldDescriptor (T k).2.2.1 = some (ty0 k)) (hnm : ∀ a, a < N → ∀ b, b < N → a ≠ b → (T a).2.1 ≠ (T b).2.1) (hi : i < 90) (hE : dE G i (ν i) = .inr (ci, fs)) (hc : dkCl[ci]? = some (C, T, N)) (k : Nat) (hk : k < N) (hlink : Cond.fieldLinkNest own index ref (T k).2.1 (T k).2.2.1 host ∈ nestW) (hr : ref = (T k).1) (hfin : (T k).2.2.2 = false) (hd : parseFieldDescriptor (T k).2.2.1 = some .int) (hl : k < fs.length) (hE' : dE G i (va_up (ν i) k w) = .inr (ci, fs.set k (.int (nI w))))
    (hdg : decode cc pc = .ok (.putfield index, 3)) (kk : ∀ (H1 : Heap) (locs1 : List Loc), dM G (up2 ν i k w) H1 → dS G H0 H1 locs1 → W p l e R s m args below meth c H1 locs1 cells slots Q (F0 m (pc + 3) ls rest)) : W p l e R s m args below meth c H locs cells slots Q (F0 m pc ls (.int (nI w) :: .ref (ra G i) :: rest)) := by
  obtain ⟨hx, hb, -, hown, hts, hK⟩ := X
  subst hr
  refine va_putN (D := G.1) (ci := ci) (C := C) (T := T) (N := N) (ty := .int) hx hb hts hin ty0 hty hnm hown hK.1 hM.P wl_D hS i ((wl_get hi).trans (by rw [hE])) hc k hk (va_Nw.use rfl (hK.2 _ hlink)) (fun _ h => h) hfin hd rfl rfl hl hdg (fun H1 locs1 hP _ hS1 => kk H1 locs1 (dM_set hi hP ?_ ?_) hS1)
  · rw [up2_row]; exact hE'
  · intro k hk; exact up2_ne hk
/-- places of int rows -/
theorem m_iald {i N j : Nat} (X : dC p s m args c cc n own G) (hM : dM G ν H) (hi : i < 90) (hE : dE G i (ν i) = aI G N (ν i)) (hj : j < N) (hN : N < 2 ^ 31) (hdg : decode cc pc = .ok (.iaload, 1))
    (kk : W p l e R s m args below meth c H locs cells slots Q (F0 m (pc + 1) ls (.int (nI (ν i j)) :: rest))) : W p l e R s m args below meth c H locs cells slots Q (F0 m pc ls (.int (nI j) :: .ref (ra G i) :: rest)) := by
  obtain ⟨hx, hb, -, hown, hts, hK⟩ := X
  have hc : (nI j).toNatClampNeg = j := nI_clamp (by omega)
  refine va_iald (D := G.1) (cA := G.2.1.1) (n := N) (f := fun j => nI (ν i j)) hx hb hK.1 hM.P i 0 ((wl_get hi).trans (by rw [hE]; rfl)) rfl (vp_in_nI hj hN) hdg ?_
  rw [hc]
  exact kk
theorem m_iast {i N j w : Nat} (X : dC p s m args c cc n own G) (hM : dM G ν H) (hS : dS G H0 H locs) (hi : i < 90) (hE : ∀ r, dE G i r = aI G N r) (hj : j < N) (hN : N < 2 ^ 31) (hdg : decode cc pc = .ok (.iastore, 1))
    (kk : ∀ (H1 : Heap) (locs1 : List Loc), dM G (up2 ν i j w) H1 → dS G H0 H1 locs1 → W p l e R s m args below meth c H1 locs1 cells slots Q (F0 m (pc + 1) ls rest)) : W p l e R s m args below meth c H locs cells slots Q (F0 m pc ls (.int (nI w) :: .int (nI j) :: .ref (ra G i) :: rest)) := by
  obtain ⟨hx, hb, -, hown, hts, hK⟩ := X
  have hc : (nI j).toNatClampNeg = j := nI_clamp (by omega)
  refine va_iast (D := G.1) (cA := G.2.1.1) (n := N) (f := fun j => nI (ν i j)) hx hb hK.1 hM.P wl_D hS i 0 ((wl_get hi).trans (by rw [hE]; rfl)) rfl (vp_in_nI hj hN) hdg (fun H1 locs1 hP _ hS1 => kk H1 locs1 (dM_set hi hP ?_ ?_) hS1)
  · rw [up2_row, hE, hc]
    have e : (fun q => nI (va_up (ν i) j w q)) = upd (fun j => nI (ν i j)) j (nI w) := by
      funext q
      by_cases h : q = j
      · subst h; simp [va_up, upd]
      · simp [va_up, upd, h]
    unfold aI
    rw [e]
  · intro k hk; exact up2_ne hk
theorem m_alen {i N : Nat} (X : dC p s m args c cc n own G) (hM : dM G ν H) (hi : i < 90) (hE : dE G i (ν i) = aI G N (ν i)) (hdg : decode cc pc = .ok (.arraylength, 1))
    (kk : W p l e R s m args below meth c H locs cells slots Q (F0 m (pc + 1) ls (.int (nI N) :: rest))) : W p l e R s m args below meth c H locs cells slots Q (F0 m pc ls (.ref (ra G i) :: rest)) := by
  obtain ⟨hx, hb, -, hown, hts, hK⟩ := X
  exact va_alen (D := G.1) (cA := G.2.1.1) (x := (N, .inl (fun j => nI (ν i j)))) (ty := .int) hx hb hK.1 hM.P i 0 ((wl_get hi).trans (by rw [hE]; rfl)) rfl rfl hdg kk
/-- a place of a row of references -/
theorem m_aald {i N j : Nat} {cA : ClassId} {ty : FieldType} {f : Nat → Nat} (t0 : Nat) (hty : ty.isReference = true) (X : dC p s m args c cc n own G) (hM : dM G ν H) (hi : i < 90) (hE : dE G i (ν i) = aR cA N f) (ht : (dT G)[t0]? = some (cA, ty)) (hj : j < N) (hN : N < 2 ^ 31) (hdg : decode cc pc = .ok (.aaload, 1))
    (kk : W p l e R s m args below meth c H locs cells slots Q (F0 m (pc + 1) ls (.ref (f j) :: rest))) : W p l e R s m args below meth c H locs cells slots Q (F0 m pc ls (.int (nI j) :: .ref (ra G i) :: rest)) := by
  obtain ⟨hx, hb, -, hown, hts, hK⟩ := X
  have hc : (nI j).toNatClampNeg = j := nI_clamp (by omega)
  have h0 := hM i hi
  rw [hE] at h0
  have h1 : H[ra G i]? = some (vp_cell cA (N, .inr (.inr (.inr (.inr (fun j => some (f j))))))) := h0
  exact W.aald (v := .ref (f j)) (ty := ty) hx hb h1 ((hK.1.2 t0 _ ht).1 N (fun j => va_rf (some (f j)))) hty (fun q => by cases q) (by show ¬ (nI j < 0 ∨ (arrV _ _ _).slots.size ≤ _); rw [arrV_size]; exact vp_in_nI hj hN) (by show (arrV _ _ _).slots[_]? = _; rw [hc, arrV_read _ _ hj]; rfl) rfl rfl hdg kk
end RW1
section RW2
variable {p : Program} {l : Launch} {e : Env} {R : Room} {s : State} {m : MethodId} {args : Array Value} {below : List Frame} {meth : Method} {c : Code} {H : Heap} {locs : List Loc} {cells slots : Nat} {Q : State → Prop}
variable {cc : ByteArray} {pc n : Nat} {ls : Array Slot} {rest : List Value} {own : String} {G : dG} {ν : Mm} {H0 : Heap}
/-! ints as numbers of Nat -/
theorem tn_add {a b : Nat} (X : dC p s m args c cc n own G) (hdg : decode cc pc = .ok (.iadd, 1)) (k : W p l e R s m args below meth c H locs cells slots Q (F0 m (pc + 1) ls (.int (nI (a + b)) :: rest))) : W p l e R s m args below meth c H locs cells slots Q (F0 m pc ls (.int (nI b) :: .int (nI a) :: rest)) :=
  lv_iadd X.1 X.2.1 hdg (by rw [nI_add]; exact k)
theorem tn_sub {a b : Nat} (X : dC p s m args c cc n own G) (hdg : decode cc pc = .ok (.isub, 1)) (h : b ≤ a) (k : W p l e R s m args below meth c H locs cells slots Q (F0 m (pc + 1) ls (.int (nI (a - b)) :: rest))) : W p l e R s m args below meth c H locs cells slots Q (F0 m pc ls (.int (nI b) :: .int (nI a) :: rest)) :=
  lv_isub X.1 X.2.1 hdg (by rw [pk_sub h]; exact k)
theorem tn_mul {a b : Nat} (X : dC p s m args c cc n own G) (hdg : decode cc pc = .ok (.imul, 1)) (k : W p l e R s m args below meth c H locs cells slots Q (F0 m (pc + 1) ls (.int (nI (a * b)) :: rest))) : W p l e R s m args below meth c H locs cells slots Q (F0 m pc ls (.int (nI b) :: .int (nI a) :: rest)) :=
  lv_imul X.1 X.2.1 hdg (by rw [pk_mul]; exact k)
theorem tn_div {a b : Nat} (X : dC p s m args c cc n own G) (hdg : decode cc pc = .ok (.idiv, 1)) (ha : a < 2 ^ 31) (h0 : 0 < b) (hb : b < 2 ^ 31) (k : W p l e R s m args below meth c H locs cells slots Q (F0 m (pc + 1) ls (.int (nI (a / b)) :: rest))) : W p l e R s m args below meth c H locs cells slots Q (F0 m pc ls (.int (nI b) :: .int (nI a) :: rest)) :=
  lv_idiv X.1 X.2.1 hdg (nI_ne0 h0 hb) (by rw [pk_div ha h0 hb]; exact k)
theorem nI_amt {k : Nat} (hk : k < 32) : ((nI k &&& 31).toBitVec.smod 32).toNat = k := by
  have : ∀ k : Fin 32, ((nI k.val &&& 31).toBitVec.smod 32).toNat = k.val := by decide +kernel
  exact this ⟨k, hk⟩
theorem tn_shr {a k0 : Nat} (X : dC p s m args c cc n own G) (hdg : decode cc pc = .ok (.ishr, 1)) (ha : a < 2 ^ 31) (hk : k0 < 32) (k : W p l e R s m args below meth c H locs cells slots Q (F0 m (pc + 1) ls (.int (nI (a / 2 ^ k0)) :: rest))) : W p l e R s m args below meth c H locs cells slots Q (F0 m pc ls (.int (nI k0) :: .int (nI a) :: rest)) :=
  lv_ishr X.1 X.2.1 hdg (by rw [pk_shrN ha _ k0 (nI_amt hk)]; exact k)
theorem tn_shl1 {k0 : Nat} (X : dC p s m args c cc n own G) (hdg : decode cc pc = .ok (.ishl, 1)) (hk : k0 < 31) (k : W p l e R s m args below meth c H locs cells slots Q (F0 m (pc + 1) ls (.int (nI (2 ^ k0)) :: rest))) : W p l e R s m args below meth c H locs cells slots Q (F0 m pc ls (.int (nI k0) :: .int (nI 1) :: rest)) :=
  lv_ishl X.1 X.2.1 hdg (by
    have h := pk_shlN (n := 1) (nI k0 &&& 31) k0 (nI_amt (by omega)) (by rw [Nat.one_mul]; exact Nat.pow_lt_pow_right (by omega) (by omega))
    rw [Nat.one_mul] at h
    rw [h]; exact k)
theorem nI_and (a b : Nat) : nI a &&& nI b = nI (a &&& b) := by
  apply Int32.toBitVec_inj.mp
  rw [Int32.toBitVec_and]
  show BitVec.ofNat 32 a &&& BitVec.ofNat 32 b = BitVec.ofNat 32 (a &&& b)
  apply BitVec.eq_of_toNat_eq
  simp only [BitVec.toNat_and, BitVec.toNat_ofNat]
  rw [Nat.and_mod_two_pow]
theorem nI_or (a b : Nat) : nI a ||| nI b = nI (a ||| b) := by
  apply Int32.toBitVec_inj.mp
  rw [Int32.toBitVec_or]
  show BitVec.ofNat 32 a ||| BitVec.ofNat 32 b = BitVec.ofNat 32 (a ||| b)
  apply BitVec.eq_of_toNat_eq
  simp only [BitVec.toNat_or, BitVec.toNat_ofNat]
  rw [Nat.or_mod_two_pow]
theorem tn_and {a b : Nat} (X : dC p s m args c cc n own G) (hdg : decode cc pc = .ok (.iand, 1)) (k : W p l e R s m args below meth c H locs cells slots Q (F0 m (pc + 1) ls (.int (nI (a &&& b)) :: rest))) : W p l e R s m args below meth c H locs cells slots Q (F0 m pc ls (.int (nI b) :: .int (nI a) :: rest)) :=
  lv_iand X.1 X.2.1 hdg (by rw [nI_and]; exact k)
theorem tn_or {a b : Nat} (X : dC p s m args c cc n own G) (hdg : decode cc pc = .ok (.ior, 1)) (k : W p l e R s m args below meth c H locs cells slots Q (F0 m (pc + 1) ls (.int (nI (a ||| b)) :: rest))) : W p l e R s m args below meth c H locs cells slots Q (F0 m pc ls (.int (nI b) :: .int (nI a) :: rest)) :=
  lv_ior X.1 X.2.1 hdg (by rw [nI_or]; exact k)
/-- constants -/
theorem tn_ic {v : Nat} {z : Int} (X : dC p s m args c cc n own G) (hdg : decode cc pc = .ok (.iconst z, 1)) (hv : Int32.ofInt z = nI v) (k : W p l e R s m args below meth c H locs cells slots Q (F0 m (pc + 1) ls (.int (nI v) :: rest))) : W p l e R s m args below meth c H locs cells slots Q (F0 m pc ls rest) := lv_iconst X.1 X.2.1 hdg hv k
theorem tn_bi {v : Nat} {z : Int} (X : dC p s m args c cc n own G) (hdg : decode cc pc = .ok (.bipush z, 2)) (hv : (Int8.ofInt z).toInt32 = nI v) (k : W p l e R s m args below meth c H locs cells slots Q (F0 m (pc + 2) ls (.int (nI v) :: rest))) : W p l e R s m args below meth c H locs cells slots Q (F0 m pc ls rest) := lv_bipush X.1 X.2.1 hdg hv k
theorem tn_si {v : Nat} {z : Int} (X : dC p s m args c cc n own G) (hdg : decode cc pc = .ok (.sipush z, 3)) (hv : (Int16.ofInt z).toInt32 = nI v) (k : W p l e R s m args below meth c H locs cells slots Q (F0 m (pc + 3) ls (.int (nI v) :: rest))) : W p l e R s m args below meth c H locs cells slots Q (F0 m pc ls rest) := lv_sipush X.1 X.2.1 hdg hv k
theorem tn_ldc {v : Int32} {w index : Nat} (X : dC p s m args c cc n own G) (hw : Cond.constant own index v ∈ allW) (hv : v = nI w) (hdg : decode cc pc = .ok (.ldc index, 2)) (k : W p l e R s m args below meth c H locs cells slots Q (F0 m (pc + 2) ls (.int (nI w) :: rest))) : W p l e R s m args below meth c H locs cells slots Q (F0 m pc ls rest) := by
  subst hv
  exact lv_ldc X.1 X.2.1 X.2.2.2.1 (X.2.2.2.2.1 _ hw) hdg k
/-- branches -/
theorem tn_ge {a b tgt : Nat} {off : Int} (X : dC p s m args c cc n own G) (hdg : decode cc pc = .ok (.if_icmp .ge off, 3)) (ht : (pc : Int) + off = (tgt : Int)) (ha : a < 2 ^ 31) (hb : b < 2 ^ 31) (kt : b ≤ a → W p l e R s m args below meth c H locs cells slots Q (F0 m tgt ls rest)) (kf : a < b → W p l e R s m args below meth c H locs cells slots Q (F0 m (pc + 3) ls rest)) : W p l e R s m args below meth c H locs cells slots Q (F0 m pc ls (.int (nI b) :: .int (nI a) :: rest)) :=
  lv_icmp_ge X.1 X.2.1 hdg ht (fun h => kt ((nI_leI hb ha).mp h)) (fun h => kf (Nat.lt_of_not_le fun q => h ((nI_leI hb ha).mpr q)))
theorem tn_lt {a b tgt : Nat} {off : Int} (X : dC p s m args c cc n own G) (hdg : decode cc pc = .ok (.if_icmp .lt off, 3)) (ht : (pc : Int) + off = (tgt : Int)) (ha : a < 2 ^ 31) (hb : b < 2 ^ 31) (kt : a < b → W p l e R s m args below meth c H locs cells slots Q (F0 m tgt ls rest)) (kf : b ≤ a → W p l e R s m args below meth c H locs cells slots Q (F0 m (pc + 3) ls rest)) : W p l e R s m args below meth c H locs cells slots Q (F0 m pc ls (.int (nI b) :: .int (nI a) :: rest)) :=
  lv_icmp_lt X.1 X.2.1 hdg ht (fun h => kt ((nI_ltI ha hb).mp h)) (fun h => kf (Nat.le_of_not_lt fun q => h ((nI_ltI ha hb).mpr q)))
theorem tn_gt {a b tgt : Nat} {off : Int} (X : dC p s m args c cc n own G) (hdg : decode cc pc = .ok (.if_icmp .gt off, 3)) (ht : (pc : Int) + off = (tgt : Int)) (ha : a < 2 ^ 31) (hb : b < 2 ^ 31) (kt : b < a → W p l e R s m args below meth c H locs cells slots Q (F0 m tgt ls rest)) (kf : a ≤ b → W p l e R s m args below meth c H locs cells slots Q (F0 m (pc + 3) ls rest)) : W p l e R s m args below meth c H locs cells slots Q (F0 m pc ls (.int (nI b) :: .int (nI a) :: rest)) :=
  lv_icmp_gt X.1 X.2.1 hdg ht (fun h => kt ((nI_ltI hb ha).mp h)) (fun h => kf (Nat.le_of_not_lt fun q => h ((nI_ltI hb ha).mpr q)))
theorem tn_le {a b tgt : Nat} {off : Int} (X : dC p s m args c cc n own G) (hdg : decode cc pc = .ok (.if_icmp .le off, 3)) (ht : (pc : Int) + off = (tgt : Int)) (ha : a < 2 ^ 31) (hb : b < 2 ^ 31) (kt : a ≤ b → W p l e R s m args below meth c H locs cells slots Q (F0 m tgt ls rest)) (kf : b < a → W p l e R s m args below meth c H locs cells slots Q (F0 m (pc + 3) ls rest)) : W p l e R s m args below meth c H locs cells slots Q (F0 m pc ls (.int (nI b) :: .int (nI a) :: rest)) :=
  lv_icmp_le X.1 X.2.1 hdg ht (fun h => kt ((nI_leI ha hb).mp h)) (fun h => kf (Nat.lt_of_not_le fun q => h ((nI_leI ha hb).mpr q)))
theorem tn_ne {a b tgt : Nat} {off : Int} (X : dC p s m args c cc n own G) (hdg : decode cc pc = .ok (.if_icmp .ne off, 3)) (ht : (pc : Int) + off = (tgt : Int)) (ha : a < 2 ^ 31) (hb : b < 2 ^ 31) (kt : a ≠ b → W p l e R s m args below meth c H locs cells slots Q (F0 m tgt ls rest)) (kf : a = b → W p l e R s m args below meth c H locs cells slots Q (F0 m (pc + 3) ls rest)) : W p l e R s m args below meth c H locs cells slots Q (F0 m pc ls (.int (nI b) :: .int (nI a) :: rest)) :=
  lv_icmp_ne X.1 X.2.1 hdg ht (fun h => kt (fun q => h (by rw [q]))) (fun h => kf ((nI_eq ha hb).mp h))
theorem tn_eq {a b tgt : Nat} {off : Int} (X : dC p s m args c cc n own G) (hdg : decode cc pc = .ok (.if_icmp .eq off, 3)) (ht : (pc : Int) + off = (tgt : Int)) (ha : a < 2 ^ 31) (hb : b < 2 ^ 31) (kt : a = b → W p l e R s m args below meth c H locs cells slots Q (F0 m tgt ls rest)) (kf : a ≠ b → W p l e R s m args below meth c H locs cells slots Q (F0 m (pc + 3) ls rest)) : W p l e R s m args below meth c H locs cells slots Q (F0 m pc ls (.int (nI b) :: .int (nI a) :: rest)) :=
  lv_icmp_eq X.1 X.2.1 hdg ht (fun h => kt ((nI_eq ha hb).mp h)) (fun h => kf (fun q => h (by rw [q])))
theorem tn_eq0 {a tgt : Nat} {off : Int} (X : dC p s m args c cc n own G) (hdg : decode cc pc = .ok (.ifCond .eq off, 3)) (ht : (pc : Int) + off = (tgt : Int)) (ha : a < 2 ^ 31) (kt : a = 0 → W p l e R s m args below meth c H locs cells slots Q (F0 m tgt ls rest)) (kf : a ≠ 0 → W p l e R s m args below meth c H locs cells slots Q (F0 m (pc + 3) ls rest)) : W p l e R s m args below meth c H locs cells slots Q (F0 m pc ls (.int (nI a) :: rest)) :=
  lv_if_eq X.1 X.2.1 hdg ht (fun h => kt ((nI_eq ha (by omega)).mp (h.trans nI_0.symm))) (fun h => kf (fun q => h (by rw [q]; exact nI_0)))
theorem tn_ne0 {a tgt : Nat} {off : Int} (X : dC p s m args c cc n own G) (hdg : decode cc pc = .ok (.ifCond .ne off, 3)) (ht : (pc : Int) + off = (tgt : Int)) (ha : a < 2 ^ 31) (kt : a ≠ 0 → W p l e R s m args below meth c H locs cells slots Q (F0 m tgt ls rest)) (kf : a = 0 → W p l e R s m args below meth c H locs cells slots Q (F0 m (pc + 3) ls rest)) : W p l e R s m args below meth c H locs cells slots Q (F0 m pc ls (.int (nI a) :: rest)) :=
  lv_if_ne X.1 X.2.1 hdg ht (fun h => kt (fun q => h (by rw [q]; exact nI_0))) (fun h => kf ((nI_eq ha (by omega)).mp (h.trans nI_0.symm)))
theorem tn_gt0 {a tgt : Nat} {off : Int} (X : dC p s m args c cc n own G) (hdg : decode cc pc = .ok (.ifCond .gt off, 3)) (ht : (pc : Int) + off = (tgt : Int)) (ha : a < 2 ^ 31) (kt : 0 < a → W p l e R s m args below meth c H locs cells slots Q (F0 m tgt ls rest)) (kf : a = 0 → W p l e R s m args below meth c H locs cells slots Q (F0 m (pc + 3) ls rest)) : W p l e R s m args below meth c H locs cells slots Q (F0 m pc ls (.int (nI a) :: rest)) :=
  lv_if_gt X.1 X.2.1 hdg ht (fun h => kt (by rw [← nI_0] at h; exact (nI_ltI (by omega) ha).mp h)) (fun h => kf (by rw [← nI_0] at h; have : ¬ 0 < a := fun q => h ((nI_ltI (by omega) ha).mpr q); omega))
theorem tn_le0 {a tgt : Nat} {off : Int} (X : dC p s m args c cc n own G) (hdg : decode cc pc = .ok (.ifCond .le off, 3)) (ht : (pc : Int) + off = (tgt : Int)) (ha : a < 2 ^ 31) (kt : a = 0 → W p l e R s m args below meth c H locs cells slots Q (F0 m tgt ls rest)) (kf : 0 < a → W p l e R s m args below meth c H locs cells slots Q (F0 m (pc + 3) ls rest)) : W p l e R s m args below meth c H locs cells slots Q (F0 m pc ls (.int (nI a) :: rest)) :=
  lv_if_le X.1 X.2.1 hdg ht (fun h => kt (by rw [← nI_0] at h; have := (nI_leI ha (by omega)).mp h; omega)) (fun h => kf (by rw [← nI_0] at h; have : ¬ a ≤ 0 := fun q => h ((nI_leI ha (by omega)).mpr q); omega))
theorem tn_ge0 {a tgt : Nat} {off : Int} (X : dC p s m args c cc n own G) (hdg : decode cc pc = .ok (.ifCond .ge off, 3)) (ht : (pc : Int) + off = (tgt : Int)) (ha : a < 2 ^ 31) (kt : W p l e R s m args below meth c H locs cells slots Q (F0 m tgt ls rest)) : W p l e R s m args below meth c H locs cells slots Q (F0 m pc ls (.int (nI a) :: rest)) :=
  lv_if_ge X.1 X.2.1 hdg ht (fun h => kt) (fun h => absurd (nI_pos' ha) h)
theorem tn_lt0 {a : Nat} {off : Int} {tgt : Nat} (X : dC p s m args c cc n own G) (hdg : decode cc pc = .ok (.ifCond .lt off, 3)) (ht : (pc : Int) + off = (tgt : Int)) (ha : a < 2 ^ 31) (kf : W p l e R s m args below meth c H locs cells slots Q (F0 m (pc + 3) ls rest)) : W p l e R s m args below meth c H locs cells slots Q (F0 m pc ls (.int (nI a) :: rest)) :=
  lv_if_lt X.1 X.2.1 hdg ht (fun h => absurd h (nI_pos ha)) (fun h => kf)
/-- the top of the stack under another name -/
theorem tn_as {a b : Nat} (h : a = b) (k : W p l e R s m args below meth c H locs cells slots Q (F0 m pc ls (.int (nI b) :: rest))) : W p l e R s m args below meth c H locs cells slots Q (F0 m pc ls (.int (nI a) :: rest)) := by
  subst h; exact k
theorem tn_asR {a b : Nat} (h : a = b) (k : W p l e R s m args below meth c H locs cells slots Q (F0 m pc ls (.ref (ra G b) :: rest))) : W p l e R s m args below meth c H locs cells slots Q (F0 m pc ls (.ref (ra G a) :: rest)) := by
  subst h; exact k
theorem tn_and1 {a : Nat} (X : dC p s m args c cc n own G) (hdg : decode cc pc = .ok (.iand, 1)) (k : W p l e R s m args below meth c H locs cells slots Q (F0 m (pc + 1) ls (.int (nI (a % 2)) :: rest))) : W p l e R s m args below meth c H locs cells slots Q (F0 m pc ls (.int (nI 1) :: .int (nI a) :: rest)) :=
  lv_iand X.1 X.2.1 hdg (by rw [nI_and, Nat.and_one_is_mod]; exact k)
theorem tn_inc {i nL k a w : Nat} {z : Int} {lv lv' : List (Nat × Value)} (X : dC p s m args c cc n own G) (hdg : decode cc pc = .ok (.iinc i z, 3)) (h : lv_has ls nL lv) (hk : lv[k]? = some (i, .int (nI a))) (hz : Int32.ofInt z = nI w) (hn : i < nL) (hl : (i, Value.int (nI (a + w))) :: lv.filter (fun q => !(q.1 == i) && !(q.1 + 1 == i && q.2.category == 2)) = lv')
    (kk : ∀ ls' : Array Slot, lv_has ls' nL lv' → W p l e R s m args below meth c H locs cells slots Q (F0 m (pc + 3) ls' rest)) : W p l e R s m args below meth c H locs cells slots Q (F0 m pc ls rest) :=
  lv_iinc X.1 X.2.1 hdg h hk (by rw [hz, nI_add]) hn hl kk
theorem tn_dec {i nL k a : Nat} {lv lv' : List (Nat × Value)} (X : dC p s m args c cc n own G) (hdg : decode cc pc = .ok (.iinc i (-1), 3)) (h : lv_has ls nL lv) (hk : lv[k]? = some (i, .int (nI a))) (ha : 1 ≤ a) (hn : i < nL) (hl : (i, Value.int (nI (a - 1))) :: lv.filter (fun q => !(q.1 == i) && !(q.1 + 1 == i && q.2.category == 2)) = lv')
    (kk : ∀ ls' : Array Slot, lv_has ls' nL lv' → W p l e R s m args below meth c H locs cells slots Q (F0 m (pc + 3) ls' rest)) : W p l e R s m args below meth c H locs cells slots Q (F0 m pc ls rest) :=
  lv_iinc X.1 X.2.1 hdg h hk (by
    obtain ⟨b, rfl⟩ : ∃ b, a = b + 1 := ⟨a - 1, by omega⟩
    exact pk_m1 b) hn hl kk
end RW2
