/-! ===== more rows: longs, switches, Math, System.arraycopy ===== -/
section RW4
variable {p : Program} {l : Launch} {e : Env} {R : Room} {s : State} {m : MethodId} {args : Array Value} {below : List Frame} {meth : Method} {c : Code} {H : Heap} {locs : List Loc} {cells slots : Nat} {Q : State → Prop}
variable {cc : ByteArray} {pc n : Nat} {ls : Array Slot} {rest : List Value} {own : String} {G : dG} {ν : Mm} {H0 : Heap}
theorem tn_i2l {a : Nat} (X : dC p s m args c cc n own G) (hdg : decode cc pc = .ok (.i2l, 1)) (ha : a < 2 ^ 31) (k : W p l e R s m args below meth c H locs cells slots Q (F0 m (pc + 1) ls (.long (lN a) :: rest))) : W p l e R s m args below meth c H locs cells slots Q (F0 m pc ls (.int (nI a) :: rest)) :=
  lv_i2l X.1 X.2.1 hdg (nI_l ha) k
theorem tn_l2i {a : Nat} (X : dC p s m args c cc n own G) (hdg : decode cc pc = .ok (.l2i, 1)) (k : W p l e R s m args below meth c H locs cells slots Q (F0 m (pc + 1) ls (.int (nI a) :: rest))) : W p l e R s m args below meth c H locs cells slots Q (F0 m pc ls (.long (lN a) :: rest)) :=
  lv_l2i X.1 X.2.1 hdg (lN_i a) k
theorem tn_lmul {a b : Nat} (X : dC p s m args c cc n own G) (hdg : decode cc pc = .ok (.lmul, 1)) (k : W p l e R s m args below meth c H locs cells slots Q (F0 m (pc + 1) ls (.long (lN (a * b)) :: rest))) : W p l e R s m args below meth c H locs cells slots Q (F0 m pc ls (.long (lN b) :: .long (lN a) :: rest)) :=
  lv_lmul X.1 X.2.1 hdg (by rw [lN_mul]; exact k)
theorem tn_ldiv {a b : Nat} (X : dC p s m args c cc n own G) (hdg : decode cc pc = .ok (.ldiv, 1)) (ha : a < 2 ^ 63) (h0 : 0 < b) (hb : b < 2 ^ 63) (k : W p l e R s m args below meth c H locs cells slots Q (F0 m (pc + 1) ls (.long (lN (a / b)) :: rest))) : W p l e R s m args below meth c H locs cells slots Q (F0 m pc ls (.long (lN b) :: .long (lN a) :: rest)) :=
  lv_ldiv X.1 X.2.1 hdg (fun q => by have := (pk_lEQ (b := 0) hb (by omega)).mp (q.trans rfl); omega) (by rw [pk_lDiv ha h0 hb]; exact k)
theorem tn_min {a b index : Nat} (X : dC p s m args c cc n own G) (hl : ls.size = n) (hlink : Cond.methodLink own index Lib.Math.min.name ∈ allW) (hf : 1 ≤ R.frames) (hlo : (rest.map fun v => v.category).sum + 13 ≤ R.locals) (hc : cells ≤ R.cells) (hs : slots ≤ R.slots) (ha : a < 2 ^ 31) (hb : b < 2 ^ 31) (hdg : decode cc pc = .ok (.invokestatic index, 3))
    (k : W p l e R s m args below meth c H locs cells slots Q (F0 m (pc + 3) ls (.int (nI (min a b)) :: rest))) : W p l e R s m args below meth c H locs cells slots Q (F0 m pc ls (.int (nI b) :: .int (nI a) :: rest)) := by
  have hw := X.2.2.2.2.1
  refine va_mmin X.1 X.2.1 (by rw [hl]; exact X.2.2.1) X.2.2.2.1 (hw _ hlink) (hw _ mw_min.1) (hw _ mw_min.2.1) (hw _ mw_min.2.2) hf hlo hc hs hdg ?_
  have e : (if nI b < nI a then nI b else nI a) = nI (min a b) := by
    by_cases h : b < a
    · rw [if_pos (nI_lt h ha), Nat.min_eq_right (by omega)]
    · rw [if_neg (nI_nlt (by omega) hb), Nat.min_eq_left (by omega)]
  rw [e]
  exact k
theorem tn_max {a b index : Nat} (X : dC p s m args c cc n own G) (hl : ls.size = n) (hlink : Cond.methodLink own index Lib.Math.max.name ∈ allW) (hf : 1 ≤ R.frames) (hlo : (rest.map fun v => v.category).sum + 13 ≤ R.locals) (hc : cells ≤ R.cells) (hs : slots ≤ R.slots) (ha : a < 2 ^ 31) (hb : b < 2 ^ 31) (hst : Cond.static Lib.Math.max.name ∈ allW ∧ Cond.code Lib.Math.max.name Lib.Math.max.code 2 (some .int) ∈ allW) (hdg : decode cc pc = .ok (.invokestatic index, 3))
    (k : W p l e R s m args below meth c H locs cells slots Q (F0 m (pc + 3) ls (.int (nI (max a b)) :: rest))) : W p l e R s m args below meth c H locs cells slots Q (F0 m pc ls (.int (nI b) :: .int (nI a) :: rest)) := by
  have hw := X.2.2.2.2.1
  refine va_mmax X.1 X.2.1 (by rw [hl]; exact X.2.2.1) X.2.2.2.1 (hw _ hlink) (hw _ hst.1) (hw _ mw_min.2.1) (hw _ hst.2) hf hlo hc hs hdg ?_
  have e : (if nI a < nI b then nI b else nI a) = nI (max a b) := by
    by_cases h : a < b
    · rw [if_pos (nI_lt h hb), Nat.max_eq_right (by omega)]
    · rw [if_neg (nI_nlt (by omega) ha), Nat.max_eq_left (by omega)]
  rw [e]
  exact k
/-- System.arraycopy of the first k places -/
theorem tn_copy {index i j N k : Nat} (X : dC p s m args c cc n own G) (hM : dM G ν H) (hS : dS G H0 H locs) (hl : ls.size = n) (hlink : Cond.methodLink own index arraycopyName ∈ allW) (hi : i < 90) (hj : j < 90) (hE : dE G i (ν i) = aI G N (ν i)) (hE2 : ∀ r, dE G j r = aI G N r) (hk : k ≤ N) (hN : N < 2 ^ 31) (hlo : (rest.map fun v => v.category).sum ≤ 8) (hf : 1 ≤ R.frames) (hlo2 : 40 ≤ R.locals) (hdg : decode cc pc = .ok (.invokestatic index, 3))
    (kk : ∀ (H1 : Heap) (locs1 : List Loc), dM G (va_up ν j (fun a => if a < k then ν i a else ν j a)) H1 → dS G H0 H1 locs1 → W p l e R s m args below meth c H1 locs1 cells slots Q (F0 m (pc + 3) ls rest)) : W p l e R s m args below meth c H locs cells slots Q (F0 m pc ls (.int (nI k) :: .int (nI 0) :: .ref (ra G j) :: .int (nI 0) :: .ref (ra G i) :: rest)) := by
  have hw := X.2.2.2.2.1
  have hK := X.2.2.2.2.2
  have h0 : (nI 0).toNatClampNeg = 0 := rfl
  have h1 : (nI k).toNatClampNeg = k := nI_clamp (by omega)
  refine va_copyi (D := G.1) (c0 := G.2.1.1) (c1 := G.2.1.1) (n0 := N) (n1 := N) (f := fun a => nI (ν i a)) (g := fun a => nI (ν j a)) (ty := .int) X.1 X.2.1 (by rw [hl]; exact X.2.2.1) X.2.2.2.1 (hw _ hlink) (hw _ mw_copy.1) (hw _ mw_copy.2.1) (hw _ mw_copy.2.2) hK.1 hM.P wl_D hS i j 0 0 ((wl_get hi).trans (by rw [hE]; rfl)) ((wl_get hj).trans (by rw [hE2]; rfl)) rfl rfl rfl (nI_pos (by omega)) (nI_pos (by omega)) (nI_pos (by omega)) (by rw [h0, h1]; omega) (by rw [h0, h1]; omega) (fun _ _ => rfl) hf ?_ hdg (fun H1 locs1 hP _ hS1 => kk H1 locs1 (dM_set hj hP ?_ ?_) hS1)
  · have : nativeFrameWords "java/lang/System" "arraycopy" 5 + 11 ≤ 32 := by decide +kernel
    omega
  · rw [va_up_self, hE2, h0, h1]
    have e : (fun a => nI (if a < k then ν i a else ν j a)) = va_cpy (fun a => nI (ν i a)) (fun a => nI (ν j a)) 0 0 k := by
      funext a
      by_cases h : a < k
      · rw [pk_cpy_in (by omega) (by omega), if_pos h]; simp
      · rw [pk_cpy_out (by omega), if_neg h]
    unfold aI
    rw [e]
  · intro a ha; exact va_up_ne _ _ ha
theorem tn_swI {a len tgt : Nat} {dflt lo hi off : Int} {offs : Array Int} (X : dC p s m args c cc n own G) (hdg : decode cc pc = .ok (.tableswitch dflt lo hi offs, len)) (ha : a < 2 ^ 31) (h1 : lo ≤ (a : Int)) (h2 : (a : Int) ≤ hi) (ho : offs[((a : Int) - lo).toNat]? = some off) (ht : (pc : Int) + off = (tgt : Int)) (k : W p l e R s m args below meth c H locs cells slots Q (F0 m tgt ls rest)) : W p l e R s m args below meth c H locs cells slots Q (F0 m pc ls (.int (nI a) :: rest)) :=
  lv_tableIn X.1 X.2.1 hdg (by rw [nI_toInt ha]; omega) (by rw [nI_toInt ha]; omega) (by rw [nI_toInt ha]; exact ho) ht k
theorem tn_swO {a len tgt : Nat} {dflt lo hi : Int} {offs : Array Int} (X : dC p s m args c cc n own G) (hdg : decode cc pc = .ok (.tableswitch dflt lo hi offs, len)) (ha : a < 2 ^ 31) (h : (a : Int) < lo ∨ hi < (a : Int)) (ht : (pc : Int) + dflt = (tgt : Int)) (k : W p l e R s m args below meth c H locs cells slots Q (F0 m tgt ls rest)) : W p l e R s m args below meth c H locs cells slots Q (F0 m pc ls (.int (nI a) :: rest)) :=
  lv_tableOut X.1 X.2.1 hdg (by rw [nI_toInt ha]; exact h) ht k
theorem tn_subZ {a b : Nat} (X : dC p s m args c cc n own G) (hdg : decode cc pc = .ok (.isub, 1)) (k : W p l e R s m args below meth c H locs cells slots Q (F0 m (pc + 1) ls (.int (nI a - nI b) :: rest))) : W p l e R s m args below meth c H locs cells slots Q (F0 m pc ls (.int (nI b) :: .int (nI a) :: rest)) :=
  lv_isub X.1 X.2.1 hdg k
theorem tn_ltZ {a b tgt : Nat} {off : Int} (X : dC p s m args c cc n own G) (hdg : decode cc pc = .ok (.ifCond .lt off, 3)) (ht : (pc : Int) + off = (tgt : Int)) (ha : a < 2 ^ 30) (hb : b < 2 ^ 30) (kt : a < b → W p l e R s m args below meth c H locs cells slots Q (F0 m tgt ls rest)) (kf : b ≤ a → W p l e R s m args below meth c H locs cells slots Q (F0 m (pc + 3) ls rest)) : W p l e R s m args below meth c H locs cells slots Q (F0 m pc ls (.int (nI a - nI b) :: rest)) :=
  lv_if_lt X.1 X.2.1 hdg ht (fun h => kt (Nat.lt_of_not_le fun q => by rw [pk_sub q] at h; exact nI_pos (by omega) h)) (fun h => kf (Nat.le_of_not_lt fun q => h (pk_sneg hb q)))
theorem tn_neZ {a b tgt : Nat} {off : Int} (X : dC p s m args c cc n own G) (hdg : decode cc pc = .ok (.ifCond .ne off, 3)) (ht : (pc : Int) + off = (tgt : Int)) (ha : a < 2 ^ 30) (hb : b < 2 ^ 30) (kt : a ≠ b → W p l e R s m args below meth c H locs cells slots Q (F0 m tgt ls rest)) (kf : a = b → W p l e R s m args below meth c H locs cells slots Q (F0 m (pc + 3) ls rest)) : W p l e R s m args below meth c H locs cells slots Q (F0 m pc ls (.int (nI a - nI b) :: rest)) :=
  lv_if_ne X.1 X.2.1 hdg ht (fun h => kt (fun q => h (by rw [q, pk_sub (Nat.le_refl _), Nat.sub_self]; rfl))) (fun h => kf (by
    rcases Nat.lt_trichotomy a b with q | q | q
    · have := pk_sneg hb q
      rw [h] at this
      exact absurd this (by decide)
    · exact q
    · rw [pk_sub (Nat.le_of_lt q)] at h
      have := (nI_eq (by omega) (by omega)).mp (h.trans nI_0.symm)
      omega))
theorem tn_ushr {a k0 : Nat} (X : dC p s m args c cc n own G) (hdg : decode cc pc = .ok (.iushr, 1)) (ha : a < 2 ^ 32) (hk : k0 < 32) (k : W p l e R s m args below meth c H locs cells slots Q (F0 m (pc + 1) ls (.int (nI (a / 2 ^ k0)) :: rest))) : W p l e R s m args below meth c H locs cells slots Q (F0 m pc ls (.int (nI k0) :: .int (nI a) :: rest)) :=
  lv_iushr X.1 X.2.1 hdg (pk_ushrN ha _ k0 (by
    have : ∀ k : Fin 32, (((nI k.val).toUInt32 &&& Int32.toUInt32 31).toBitVec % 32).toNat = k.val := by decide +kernel
    exact this ⟨k0, hk⟩)) k
theorem tn_ldcw {v : Int32} {w index : Nat} (X : dC p s m args c cc n own G) (hw : Cond.constant own index v ∈ allW) (hv : v = nI w) (hdg : decode cc pc = .ok (.ldc_w index, 3)) (k : W p l e R s m args below meth c H locs cells slots Q (F0 m (pc + 3) ls (.int (nI w) :: rest))) : W p l e R s m args below meth c H locs cells slots Q (F0 m pc ls rest) := by
  subst hv
  exact lv_ldcw X.1 X.2.1 X.2.2.2.1 (X.2.2.2.2.1 _ hw) hdg k
end RW4
