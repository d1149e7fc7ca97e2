/-! ===== the law's own helpers: below, cell; and rows of the law's frames over the desk and the law's own int arrays ===== -/
theorem mf_L_below : mfS yL_below cL_below 2 2 (some .int) := ⟨allW_in (tb_in 504 (by decide +kernel)) rfl, allW_in (tb_in 0 (by decide +kernel)) rfl, allW_in (tb_in 505 (by decide +kernel)) rfl, ⟨by decide +kernel, by decide +kernel, by decide +kernel⟩⟩
theorem mf_L_cell : mfS yL_cell cL_cell 2 2 (some .int) := ⟨allW_in (tb_in 508 (by decide +kernel)) rfl, allW_in (tb_in 0 (by decide +kernel)) rfl, allW_in (tb_in 509 (by decide +kernel)) rfl, ⟨by decide +kernel, by decide +kernel, by decide +kernel⟩⟩
theorem mf_L_build : mfS yL_build cL_build 12 7 (some (.array .int)) := ⟨allW_in (tb_in 512 (by decide +kernel)) rfl, allW_in (tb_in 0 (by decide +kernel)) rfl, allW_in (tb_in 513 (by decide +kernel)) rfl, ⟨by decide +kernel, by decide +kernel, by decide +kernel⟩⟩
/-- nothing is changed -/
abbrev noA : Nat → Prop := fun _ => False
abbrev sPc (G : dG) (Pre : State → Prop) (av : List Value) : Array Value → State → Prop := va_Pc av (fun U => dK G U ∧ Pre U)
abbrev sQ (P : Int32 → Prop) : Array Value → State → Outcome → State → Prop := va_Qi (fun (x : Int32) (_ : Unit) => P x) (fun _ _ => True) noA
/-- a helper of the law's that changes nothing and answers an int with P -/
def sI (l : Launch) (y : MethodName) (b : ByteArray) (n d : Nat) (G : dG) (av : List Value) (Pre : State → Prop) (P : Int32 → Prop) : Prop :=
  Met l y (wsD y b n (some .int)) (rmD d) (sPc G Pre av) (sQ P) 0 0 noA
theorem sI_of {l : Launch} {y : MethodName} {b : ByteArray} {n d : Nat} {G : dG} {av : List Value} {Pre : State → Prop} {P : Int32 → Prop} (hy : plainName y.cls = true) (hn : (lg_sl av).length ≤ n)
    (body : ∀ (p : Program) (e : Env) (s : State) (m : MethodId) (args : Array Value) (below : List Frame) (meth : Method) (c : Code) (ls : Array Slot), dC p s m args c b n y.cls G → Pre s → meth.sig.returnType = some .int → meth.locks = false → lv_has ls n (lv_args 0 av) →
      W p l e (rmD d) s m args below meth c s.heap [] 0 0 (MQ below (sQ P) args s 0 0 noA) (F0 m 0 ls [])) : sI l y b n d G av Pre P := by
  refine Met.ofW (cc := b) (maxL := n) (ret := some .int) hy rfl ?_
  intro p e s m args below meth c s₁ B hml hv
  obtain ⟨rfl, hK, hpre⟩ := hv
  have hts := atoms_spec (ws := wsD y b n (some .int)) B.pre
  have hl := lv_entry av hn
  rw [lg_entry_eq]
  exact body p e s m _ below meth c _ ⟨B.exec, B.bytes, hml, findClass_of_methodNamed B.named, fun w h => hts w (List.mem_cons_of_mem _ h), hK⟩ hpre B.returns B.notSynchronized hl
theorem low31 (v : Int32) : ∃ a, a < 2 ^ 31 ∧ v &&& 2147483647 = nI a := by
  refine ⟨(v.toBitVec &&& 2147483647#32).toNat, ?_, ?_⟩
  · rw [BitVec.toNat_and]
    exact Nat.lt_of_le_of_lt Nat.and_le_right (by decide)
  · apply Int32.toBitVec_inj.mp
    rw [Int32.toBitVec_and]
    show v.toBitVec &&& 2147483647#32 = BitVec.ofNat 32 _
    rw [BitVec.ofNat_toNat, BitVec.setWidth_eq]
set_option maxRecDepth 100000 in
theorem c_L_below {l : Launch} {G : dG} {v : Int32} {n : Nat} (h0 : 0 < n) (hn : n < 2 ^ 31) : sI l yL_below cL_below 2 1 G [.int v, .int (nI n)] (fun _ => True) (fun x => ∃ r, r < n ∧ x = nI r) := by
  refine sI_of (by decide +kernel) (Nat.le_of_ble_eq_true rfl) ?_
  intro p e s m args below meth c ls X _ hret hlk hl
  refine lv_iload_n X.1 X.2.1 dL_below_0 rfl (lv_at hl 0 rfl) ?_
  refine lv_ldc X.1 X.2.1 X.2.2.2.1 (X.2.2.2.2.1 _ kl_L_7) dL_below_1 ?_
  refine lv_iand X.1 X.2.1 dL_below_3 ?_
  obtain ⟨a, ha, ea⟩ := low31 v
  rw [ea]
  refine lv_iload_n X.1 X.2.1 dL_below_4 rfl (lv_at hl 1 rfl) ?_
  refine lv_irem X.1 X.2.1 dL_below_5 (nI_ne0 h0 hn) ?_
  rw [pk_rem ha h0 hn]
  exact W.iret X.1 X.2.1 hret (fun t ht hW => ⟨⟨nI (a % n), (), rfl, ⟨_, Nat.mod_lt _ h0, rfl⟩, trivial⟩, va_S.rf.F ht⟩) (fun _ h => absurd h List.not_mem_nil) dL_below_6 hlk
/-- the script lies there -/
def hasX (b : Nat) (U : State) : Prop := ∃ L xs, L ≤ 260 ∧ b < U.heap.size ∧ va_X b L xs U U.heap
set_option maxRecDepth 100000 in
theorem c_L_cell {l : Launch} {G : dG} {b k : Nat} (hk : k < 2 ^ 30) : sI l yL_cell cL_cell 2 1 G [.ref b, .int (nI k)] (hasX b) (fun _ => True) := by
  refine sI_of (by decide +kernel) (Nat.le_of_ble_eq_true rfl) ?_
  intro p e s m args below meth c ls X hx hret hlk hl
  obtain ⟨L, xs, hL, hbl, hX⟩ := hx
  have hS : va_S noA s.heap s.heap [] := va_S.rf
  have fin : ∀ (x : Int32), W p l e (rmD 1) s m args below meth c s.heap [] 0 0 (MQ below (sQ (fun _ => True)) args s 0 0 noA) (F0 m 18 ls [.int x]) := fun x =>
    W.iret X.1 X.2.1 hret (fun t ht hW => ⟨⟨x, (), rfl, trivial, trivial⟩, va_S.rf.F ht⟩) (fun _ h => absurd h List.not_mem_nil) dL_cell_18 hlk
  refine lv_iload_n X.1 X.2.1 dL_cell_0 rfl (lv_at hl 1 rfl) ?_
  refine lv_aload_n X.1 X.2.1 dL_cell_1 rfl (lv_at hl 0 rfl) ?_
  refine va_slen X.1 X.2.1 hX hbl (fun h => h) hS dL_cell_2 ?_
  refine tn_ge (a := k) (b := L) (tgt := 12) X dL_cell_3 (by decide) (by omega) (by omega) (fun h3 => ?_) (fun h3 => ?_)
  · refine lv_ldc X.1 X.2.1 X.2.2.2.1 (X.2.2.2.2.1 _ kl_L_8) dL_cell_12 ?_
    refine lv_iload_n X.1 X.2.1 dL_cell_14 rfl (lv_at hl 1 rfl) ?_
    refine tn_ic (v := 3) X dL_cell_15 (by decide) ?_
    refine lv_iadd X.1 X.2.1 dL_cell_16 ?_
    refine lv_imul X.1 X.2.1 dL_cell_17 ?_
    exact fin _
  · refine lv_aload_n X.1 X.2.1 dL_cell_6 rfl (lv_at hl 0 rfl) ?_
    refine lv_iload_n X.1 X.2.1 dL_cell_7 rfl (lv_at hl 1 rfl) ?_
    refine va_sld X.1 X.2.1 hX hbl (fun h => h) hS (vp_in_nI h3 (by omega)) dL_cell_8 ?_
    refine lv_goto (tgt := 18) X.1 X.2.1 dL_cell_9 (by decide) ?_
    exact fin _
/-- the desk, and int arrays behind it -/
def xM (G : dG) (ν : Mm) (ws : va_W) (H : Heap) : Prop := dM G ν H ∧ va_P G.1 dkCl ws H ∧ va_D (pA G) ws ∧ (∀ (k : Nat) (q : Nat × va_E), ws[k]? = some q → G.2.2 + 90 ≤ q.1 ∧ q.1 < H.size) ∧ G.2.2 + 90 ≤ H.size
theorem notdA {G : dG} {a sz : Nat} (h1 : G.2.2 + 90 ≤ a) (h2 : a < sz) : ¬ dA G sz a := by
  rintro (⟨i, hi, rfl⟩ | h)
  · unfold ra at h1; omega
  · omega
theorem xM.keep {G : dG} {ν ν' : Mm} {ws : va_W} {H H1 : Heap} (h : xM G ν ws H) (hM : dM G ν' H1) (hz : H.size ≤ H1.size) (ho : ∀ q : Nat, q < H.size → ¬ dA G H.size q → H1[q]? = H[q]?) : xM G ν' ws H1 := by
  obtain ⟨h1, h2, h3, h4, h5⟩ := h
  refine ⟨hM, fun k q hk => ?_, h3, fun k q hk => ⟨(h4 k q hk).1, Nat.lt_of_lt_of_le (h4 k q hk).2 hz⟩, Nat.le_trans h5 hz⟩
  exact (h2 k q hk).kept (ho _ (h4 k q hk).2 (notdA (h4 k q hk).1 (h4 k q hk).2))
theorem xM.same {G : dG} {ν : Mm} {ws : va_W} {H H1 : Heap} (h : xM G ν ws H) (hz : H.size ≤ H1.size) (ho : ∀ q : Nat, q < H.size → H1[q]? = H[q]?) : xM G ν ws H1 :=
  h.keep (fun i hi => (h.1 i hi).kept (ho _ (by have := h.2.2.2.2; show ra G i < _; unfold ra; omega))) hz (fun q hq _ => ho q hq)
