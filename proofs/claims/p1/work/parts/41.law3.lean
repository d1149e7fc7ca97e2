/-! ===== the law's start ===== -/
theorem aoA_of {U : State} (h : vAOA U) : ∃ (comp c : ClassId) (k : Class), U.vm.classes[c]? = some k ∧ k.kind = .array comp (.array .int) ∧ U.vm.findClass ("[" ++ (FieldType.array .int).toString) = some c := by
  unfold vAOA Cond.before at h
  simp only [Cond.holds, Cond.value, beq_iff_eq] at h
  cases hc : U.vm.findClass (FieldType.array .int).toString with
  | none => simp [hc] at h
  | some comp =>
    simp only [hc, Option.bind_some, Option.bind_eq_some_iff, Option.map_eq_some_iff] at h
    obtain ⟨c, hi, k, hk, hb⟩ := h
    cases hkind : k.kind with
    | array component ty =>
      rw [hkind] at hb
      simp at hb
      exact ⟨component, c, k, hk, by rw [hkind, hb.1], hb.2⟩
    | _ => rw [hkind] at hb; simp at hb
theorem arrOf {U : State} {cA comp : ClassId} {k : Class} {ty : FieldType} (h1 : U.vm.classes[cA]? = some k) (h2 : k.kind = .array comp ty) : ArrOfT U cA ty := fun n z => ⟨fun k h => (by cases h), k, h1, comp, h2⟩
theorem geo {s : State} {args : Array Value} (hts : ∀ w ∈ allW, w.before args s = true) (hN : NZ s) (hA : NA s) : ∃ G : dG, G.2.2 = s.heap.size ∧ dK G s := by
  obtain ⟨c0, i0, h0⟩ := u_known (C := RX0) (T := TX0) (N := 6) (n := 6) hts inA0 (hts _ ki_X0)
  obtain ⟨c1, i1, h1⟩ := u_known (C := RX1) (T := TX1) (N := 3) (n := 3) hts inA1 (hts _ ki_X1)
  obtain ⟨c2, i2, h2⟩ := u_known (C := RX2) (T := TX2) (N := 4) (n := 4) hts inA2 (hts _ ki_X2)
  obtain ⟨c3, i3, h3⟩ := u_known (C := RX3) (T := TX3) (N := 5) (n := 5) hts inA3 (hts _ ki_X3)
  obtain ⟨c4, i4, h4⟩ := u_known (C := RX4) (T := TX4) (N := 5) (n := 5) hts inA4 (hts _ ki_X4)
  obtain ⟨c5, i5, h5⟩ := u_known (C := RX5) (T := TX5) (N := 10) (n := 10) hts inA5 (hts _ ki_X5)
  obtain ⟨a0, k0, m0, e1, e2, e3⟩ := Cond.arrayClass_spec (hts _ ka_int)
  obtain ⟨m1, a1, k1, f1, -, f2, f3, f4⟩ := Cond.arrayOver_spec hA.1
  obtain ⟨m2, a2, k2, g1, -, g2, g3, g4⟩ := Cond.arrayOver_spec hA.2.1
  obtain ⟨m3, a3, k3, j1, j2, j3⟩ := aoA_of hA.2.2
  refine ⟨((fun k => if k = 0 then c0 else if k = 1 then c1 else if k = 2 then c2 else if k = 3 then c3 else if k = 4 then c4 else c5, fun k => if k = 0 then i0 else if k = 1 then i1 else if k = 2 then i2 else if k = 3 then i3 else if k = 4 then i4 else i5), (a0, a1, a2, a3), s.heap.size), rfl, ⟨fun k q hq => ?_, fun k q hq => ?_⟩, hN⟩
  · match k, hq with
    | 0, hq => cases hq; exact h0
    | 1, hq => cases hq; exact h1
    | 2, hq => cases hq; exact h2
    | 3, hq => cases hq; exact h3
    | 4, hq => cases hq; exact h4
    | 5, hq => cases hq; exact h5
    | k + 6, hq => simp [dkCl] at hq
  · match k, hq with
    | 0, hq => cases hq; exact ⟨arrOf e2 e3, e1⟩
    | 1, hq => cases hq; exact ⟨arrOf f2 f3, k1, m1, f2, f3, f1, f4⟩
    | 2, hq => cases hq; exact ⟨arrOf g2 g3, k2, m2, g2, g3, g1, g4⟩
    | 3, hq => cases hq; exact ⟨arrOf j1 j2, j3⟩
    | k + 4, hq => simp [dT] at hq
theorem geoM {s : State} {args : Array Value} (n : Nat) (hts : ∀ w ∈ allW, w.before args s = true) : ∃ J : mG, J.2.2 = n ∧ mK J s := by
  obtain ⟨c0, i0, h0⟩ := u_known (C := RX6) (T := TX6) (N := 16) (n := 16) hts inA6 (hts _ ki_X6)
  obtain ⟨a0, k0, m0, e1, e2, e3⟩ := Cond.arrayClass_spec (hts _ ka_int)
  refine ⟨((fun _ => c0, fun _ => i0), a0, n), rfl, ⟨fun k q hq => ?_, fun k q hq => ?_⟩⟩
  · match k, hq with
    | 0, hq => cases hq; exact h0
    | k + 1, hq => simp [mCl] at hq
  · match k, hq with
    | 0, hq => cases hq; exact ⟨arrOf e2 e3, e1⟩
    | k + 1, hq => simp [mT] at hq
theorem geoL {s : State} {args : Array Value} {G : dG} (hts : ∀ w ∈ allW, w.before args s = true) (hK : dK G s) : ∃ cL : ClassId, oK G cL s := by
  obtain ⟨a0, k0, m0, e1, e2, e3⟩ := Cond.arrayClass_spec (hts _ ka_long)
  refine ⟨a0, ⟨hK.1.1, fun k q hq => ?_⟩⟩
  match k, hq with
  | 0, hq => cases hq; exact ⟨arrOf e2 e3, e1⟩
  | k + 1, hq => simp at hq
theorem ao_X0 : Cond.arrayOver (.object RX0) ∈ lw_tbl := tb_in 50 (by decide +kernel)
theorem ao_X2 : Cond.arrayOver (.object RX2) ∈ lw_tbl := tb_in 52 (by decide +kernel)
theorem ao_AA : Cond.arrayOver (.array .int) ∈ lw_tbl := tb_in 60 (by decide +kernel)
set_option maxRecDepth 100000 in
theorem xStr_w : ∀ q ∈ xStr, Cond.stringRef RX5 q.1 q.2 ∈ lw_tbl ∧ Cond.exactly (.string RX5 q.1) "java/lang/String" ∈ flatC (Jvm.Cond.and given_1 narrow_1) := by decide +kernel
theorem xE_start {G : dG} {s : State} {args : Array Value} (hts : ∀ w ∈ lw_tbl, w.before args s = true) (hs : ∀ w ∈ flatC (Jvm.Cond.and given_1 narrow_1), w.before args s = true) (hG : G.2.2 = s.heap.size) : xE G s s.heap := by
  have hA : ∀ a : Nat, a < s.heap.size → ¬ pA G a := fun a h h2 => by
    have h3 : G.2.2 ≤ a := h2
    omega
  refine ⟨fun w h => va_tabs (isDC_tables (List.mem_filter.mp h).2) rfl (hts w (List.mem_filter.mp h).1), vx_Zqof (hts _ (tb_in 385 (by decide +kernel))) (hts _ (tb_in 8 (by decide +kernel))) (hs _ (by decide +kernel)) hA, vx_Zqof (hts _ (tb_in 387 (by decide +kernel))) (hts _ (tb_in 8 (by decide +kernel))) (hs _ (by decide +kernel)) hA, fun q hq => ?_⟩
  obtain ⟨h1, h2⟩ := xStr_w q hq
  obtain ⟨a, c, cell, k, q1, -⟩ := Cond.exactly_spec (args := args) (first := s) (o := none) (s := s) (idx := []) (hs _ h2)
  exact ⟨a, vk_R.of (hts _ h1) q1⟩
theorem nC_start {s : State} {args : Array Value} (hs : ∀ w ∈ flatC (Jvm.Cond.and given_1 narrow_1), w.before args s = true) : nC s :=
  ⟨va_Nc.of (hs (Cond.not (.castable nIOO nIAE)) (by decide +kernel)), va_Nc.of (hs (Cond.not (.castable nISE nIAE)) (by decide +kernel))⟩
section RZ2
variable {p : Program} {l : Launch} {e : Env} {R : Room} {s : State} {m : MethodId} {args : Array Value} {below : List Frame} {meth : Method} {c : Code} {H : Heap} {locs : List Loc} {cells slots : Nat} {Q : State → Prop}
variable {pc index : Nat} {ls : Array Slot} {rest : List Value} {G : dG} {J : mG}
theorem z_new (X : dC p s m args c code 9 RL G) (hK : mK J s) (hsz : H.size = ja J 0) (hcl : Cond.classLink RL index RX6 ∈ allW) (hcells : cells + 1 ≤ R.cells) (hslots : slots + 16 ≤ R.slots) (hdg : decode code pc = .ok (.new index, 3))
    (kk : ∀ (H1 : Heap), jM J (fun _ => .inr (0, mNew)) 1 H1 → (∀ q : Nat, q < H.size → H1[q]? = H[q]?) → H.size ≤ H1.size → W p l e R s m args below meth c H1 locs (cells + 1) (slots + 16) Q (F0 m (pc + 3) ls (.ref (ja J 0) :: rest))) : W p l e R s m args below meth c H locs cells slots Q (F0 m pc ls rest) := by
  have hts := X.2.2.2.2.1
  have hKn := hK.1 0 _ rfl
  refine W.newcK X.1 X.2.1 X.2.2.2.1 (hts _ hcl) (hts _ ki_X6) (hts _ kn_X6) rfl hdg hcells hslots hKn.2.1 hsz fun H1 kC hkC e1 z1 o1 => ?_
  have o2 : ∀ q : Nat, q < H.size → H1[q]? = H[q]? := fun q hq => o1 q (by rw [← hsz]; exact hq)
  refine kk H1 ⟨by rw [z1]; rfl, fun i hi => ?_⟩ o2 (by rw [z1, ← hsz]; omega)
  have hi0 : i = 0 := by omega
  subst hi0
  exact ⟨_, rfl, (u_born tyX6 hts inA6 hKn hkC e1 tyX6_ok).to (fun j hj => by rcases (show j = 0 ∨ j = 1 ∨ j = 2 ∨ j = 3 ∨ j = 4 ∨ j = 5 ∨ j = 6 ∨ j = 7 ∨ j = 8 ∨ j = 9 ∨ j = 10 ∨ j = 11 ∨ j = 12 ∨ j = 13 ∨ j = 14 ∨ j = 15 by omega) with rfl | rfl | rfl | rfl | rfl | rfl | rfl | rfl | rfl | rfl | rfl | rfl | rfl | rfl | rfl | rfl <;> rfl)⟩
theorem z_newL (X : dC p s m args c code 9 RL G) {cL : ClassId} (hOK : oK G cL s) (hcells : cells + 1 ≤ R.cells) (hslots : slots + 1 ≤ R.slots) (hdg : decode code pc = .ok (.newarray .long, 2))
    (kk : ∀ (H1 : Heap), oM G cL H.size (fun _ => 0) H1 → (∀ q : Nat, q < H.size → H1[q]? = H[q]?) → H.size ≤ H1.size → W p l e R s m args below meth c H1 locs (cells + 1) (slots + 1) Q (F0 m (pc + 2) ls (.ref H.size :: rest))) : W p l e R s m args below meth c H locs cells slots Q (F0 m pc ls (.int 1 :: rest)) := by
  have hts := X.2.2.2.2.1
  refine va_newaK (n := 1) X.1 X.2.1 (atype := .long) (hts _ ka_long) rfl hdg rfl (by decide) (by decide) (by decide) hcells hslots rfl fun H1 cA e1 z1 o1 hAr hNm => ?_
  have hcA : cA = cL := by
    have h2 : s.vm.findClass ("[" ++ FieldType.long.toString) = some cL := (hOK.2 0 _ rfl).2
    exact Option.some.inj (hNm.symm.trans h2)
  subst hcA
  refine kk H1 (fun k q hk => ?_) (fun q hq => o1 q hq) (by omega)
  have hk0 : k = 0 := by
    have := (List.getElem?_eq_some_iff.mp hk).1
    simp at this; omega
  subst hk0
  cases hk
  exact e1
end RZ2
theorem pS.same {G : dG} {H0 H H1 : Heap} {locs : List Loc} (h : pS G H0 H locs) (z : H.size ≤ H1.size) (o : ∀ q : Nat, q < H.size → H1[q]? = H[q]?) : pS G H0 H1 locs := pS.grow h z o
theorem jA_pA {G : dG} {J : mG} (hJ : J.2.2 = G.2.2 + 90) (q : Nat) (h : jA J q) : pA G q := by
  show G.2.2 ≤ q
  have h1 : J.2.2 ≤ q := h
  omega
set_option maxHeartbeats 8000000 in
set_option maxRecDepth 100000 in
theorem whole_start {p : Program} {e : Env} {s : State} {m : MethodId} {below : List Frame} {meth : Method} {c : Code} (l : Launch) (hflags : l.flags = flags0) {b L : Nat} {xs : Nat → Int32} (hL : L ≤ 6) (C0 : lw_At p s m meth c b L xs) : W p l e room_1 s m #[Value.ref b] below meth c s.heap [] 0 0 (lw_Z below #[Value.ref b] s) (entryFrame m ([Value.ref b] : List Value).toArray 9) := by
  obtain ⟨hx, hbc, hr, hml, hown, hts, hX, hbl, hlocks, hgv⟩ := id C0
  have hlt : l.stackTraces = false := by unfold Launch.stackTraces; rw [hflags]; decide +kernel
  have htsA : ∀ w ∈ allW, w.before #[Value.ref b] s = true := fun w h => hts w (allW_tbl h)
  have hNA : NA s := ⟨hts _ ao_X0, hts _ ao_X2, hts _ ao_AA⟩
  have hNZ : NZ s := fun w h => by
    have h1 := hts w (List.mem_filter.mp h).1
    have h2 := (List.mem_filter.mp h).2
    cases w <;> first | exact va_Nw.of rfl h1 | exact absurd h2 (by simp [isNest])
  obtain ⟨G, hGb, hK⟩ := geo htsA hNZ hNA
  obtain ⟨J, hJ, hKJ⟩ := geoM (G.2.2 + 90) htsA
  obtain ⟨cL, hOK⟩ := geoL htsA hK
  have hfl := flat_of_before _ hgv
  have hE : xE G s s.heap := xE_start hts hfl hGb
  have hN : nC s := nC_start hfl
  have X : dC p s m #[Value.ref b] c code 9 RL G := ⟨hx, hbc, hml, hown, htsA, hK⟩
  have hl := lv_entry ([.ref b]) (n := 9) (Nat.le_of_ble_eq_true rfl)
  rw [lg_entry_eq]
  generalize (lg_sl ([.ref b]) ++ List.replicate (9 - (lg_sl ([.ref b])).length) Slot.unset).toArray = ls at hl ⊢
  replace hl : lv_has ls 9 [(0, .ref b)] := hl
  have hbA : ¬ pA G b := fun h => by
    have h1 : G.2.2 ≤ b := h
    omega
  have hS : pS G s.heap s.heap [] := va_S.rf
  have hP : pM G (fun _ => .inr (0, [])) 0 s.heap := ⟨by rw [hGb]; rfl, fun i hi => by omega⟩
  have hfin : ∀ (H : Heap) (ls : Array Slot) (locs : List Loc) (k n : Nat), k ≤ 300 → n ≤ 5000 → pS G s.heap H locs → W p l e room_1 s m #[Value.ref b] below meth c H locs k n (lw_Z below #[Value.ref b] s) (F0 m 1438 ls []) := fun H ls locs k n h1 h2 hS => by
    refine lv_iconst (v := 1) hx hbc dL_law_1438 (by decide) ?_
    refine W.widen (k := 600002) (n := 7302232) (Nat.le_trans h1 (Nat.le_of_ble_eq_true rfl)) (Nat.le_trans h2 (Nat.le_of_ble_eq_true rfl)) ?_
    refine va_forget (fun q hq => ?_) ?_
    · have h3 : G.2.2 ≤ q.base := hS.2.2 q hq
      omega
    · refine W.base ?_
      exact lw_ret (Drawn.sameBut.refl s.drawn lw_cs) hx hbc hr hlocks dL_law_1439
  refine p_new (ci := 5) (C := RX5) (T := TX5) (N := 10) (fs := [.null, .null, .null, .null, .null, .int (nI 0), .int (nI 0), .int (nI 0), .int (nI 0), .int (nI 0)]) X hP hS inA5 tyX5_ok kc_L_8 ki_X5 kn_X5 rfl (fun j hj => by rcases (show j = 0 ∨ j = 1 ∨ j = 2 ∨ j = 3 ∨ j = 4 ∨ j = 5 ∨ j = 6 ∨ j = 7 ∨ j = 8 ∨ j = 9 by omega) with rfl | rfl | rfl | rfl | rfl | rfl | rfl | rfl | rfl | rfl <;> rfl) (Nat.le_of_ble_eq_true rfl) (Nat.le_of_ble_eq_true rfl) dL_law_0 (fun H hP hS => ?_)
  refine lv_dup hx hbc dL_law_3 rfl ?_
  refine va_callv (va_runI (As := []) (rest := [.ref (ra G 0)]) ⟨X.1, X.2.1, X.2.2.1, X.2.2.2.1, X.2.2.2.2.1⟩ (c_X5_init (va_up_self _ _ _) H.size) ⟨callB_of 0 X.2.2.2.2.1 (goodIn_all (fun _ h => h) mi_X5.2) rfl rfl rfl (X.2.2.2.2.1 _ kn_X5) (X.2.2.2.2.1 _ kl_L_74) ⟨by decide +kernel, by decide +kernel, by decide +kernel⟩ ⟨Nat.le_of_ble_eq_true rfl, Nat.le_of_ble_eq_true rfl⟩, rfl, X.2.2.2.2.1 _ mi_X5.1⟩ ⟨nPc_blind _ _ _ _ _, fun U hU hW => ⟨rfl, by rw [hU], by rw [hU]; exact hP, X.2.2.2.2.2.warm hW, hNA.moved hW.alike⟩⟩ rfl rfl hl.1 rfl (lv_room (Nat.le_of_ble_eq_true rfl)) dL_law_4 ⟨Nat.le_of_ble_eq_true rfl, Nat.le_of_ble_eq_true rfl⟩) hS (fun q _ h => h) (fun q h => h) (fun E t H locs ht hvm hw hB _ _ hS => ?_)
  rw [ht] at hB
  have hD : dM G nu0 H := newN_dM hw hB
  have hsz : H.size = ja J 0 := by rw [hB.1]; unfold ja; omega
  clear hB hw
  refine lv_astore_n X.1 X.2.1 dL_law_7 rfl hl (by decide) rfl (fun ls hl => ?_)
  replace hl : lv_has ls 9 [(1, .ref (ra G 0)), (0, .ref b)] := hl
  refine z_new X hKJ hsz kc_L_75 (Nat.le_of_ble_eq_true rfl) (Nat.le_of_ble_eq_true rfl) dL_law_8 (fun H1 hP o1 z1 => ?_)
  replace hS := pS.same hS z1 o1
  replace hD := hD.same o1
  clear o1 z1 hsz
  refine lv_dup hx hbc dL_law_11 rfl ?_
  refine va_callv (va_runI (As := []) (rest := [.ref (ja J 0)]) ⟨X.1, X.2.1, X.2.2.1, X.2.2.2.1, X.2.2.2.2.1⟩ (c_X6_init rfl) ⟨callB_of 0 X.2.2.2.2.1 (goodIn_all (fun _ h => h) mi_X6.2) rfl rfl rfl (X.2.2.2.2.1 _ kn_X6) (X.2.2.2.2.1 _ kl_L_77) ⟨by decide +kernel, by decide +kernel, by decide +kernel⟩ ⟨Nat.le_of_ble_eq_true rfl, Nat.le_of_ble_eq_true rfl⟩, rfl, X.2.2.2.2.1 _ mi_X6.1⟩ ⟨jPc_blind _ _, fun U hU hW => ⟨rfl, by rw [hU]; exact hP, mK.warm hW hKJ⟩⟩ rfl rfl hl.1 rfl (lv_room (Nat.le_of_ble_eq_true rfl)) dL_law_12 ⟨Nat.le_of_ble_eq_true rfl, Nat.le_of_ble_eq_true rfl⟩) hS (fun q _ h => jA_pA hJ q h) (jA_pA hJ) (fun u t H locs ht hvm hw hB z1 o1 hS => ?_)
  rw [ht] at hB
  obtain ⟨hM, hsz⟩ := hB
  replace hD : dM G nu0 H := fun i hi => (hD i hi).kept (o1 _ (hD i hi).lt (fun h => by
    have h1 : J.2.2 ≤ ra G i := h
    unfold ra at h1; omega))
  clear o1 z1 hP
  refine lv_astore_n X.1 X.2.1 dL_law_15 rfl hl (by decide) rfl (fun ls hl => ?_)
  replace hl : lv_has ls 9 [(2, .ref (ja J 0)), (1, .ref (ra G 0)), (0, .ref b)] := hl
  refine lv_iconst (v := 1) hx hbc dL_law_16 (by decide) ?_
  refine z_newL X hOK (Nat.le_of_ble_eq_true rfl) (Nat.le_of_ble_eq_true rfl) dL_law_17 (fun H2 hO o1 z1 => ?_)
  replace hS := pS.same hS z1 o1
  replace hD := hD.same o1
  replace hM := hM.same o1
  have hA : H.size = G.2.2 + 100 := by omega
  generalize H.size = a at hA hO
  clear o1 z1 hsz
  refine W.widen (k := 200) (n := 2000) (Nat.le_of_ble_eq_true rfl) (Nat.le_of_ble_eq_true rfl) ?_
  refine lv_astore_n X.1 X.2.1 dL_law_19 rfl hl (by decide) rfl (fun ls hl => ?_)
  replace hl : lv_has ls 9 [(3, .ref a), (2, .ref (ja J 0)), (1, .ref (ra G 0)), (0, .ref b)] := hl
  refine lv_iconst (v := 0) hx hbc dL_law_20 (by decide) ?_
  refine lv_istore X.1 X.2.1 dL_law_21 hl (by decide) rfl (fun ls hl => ?_)
  replace hl : lv_has ls 9 [(4, .int 0), (3, .ref a), (2, .ref (ja J 0)), (1, .ref (ra G 0)), (0, .ref b)] := hl
  refine lv_iload X.1 X.2.1 dL_law_23 (lv_at hl 0 rfl) ?_
  refine lv_aload_n X.1 X.2.1 dL_law_25 rfl (lv_at hl 4 rfl) ?_
  refine va_slen hx hbc hX hbl hbA hS dL_law_26 ?_
  refine lv_bipush (v := 6) hx hbc dL_law_27 (by decide) ?_
  refine lv_isub hx hbc dL_law_29 ?_
  rcases (show L = 0 ∨ L = 1 ∨ L = 2 ∨ L = 3 ∨ L = 4 ∨ L = 5 ∨ L = 6 by omega) with rfl | rfl | rfl | rfl | rfl | rfl | rfl
  · exact r_as (b := (-6)) (by decide) (lv_icmp_gt (tgt := 1438) hx hbc dL_law_30 (by decide) (fun _ => hfin _ ls _ 200 2000 (Nat.le_of_ble_eq_true rfl) (Nat.le_of_ble_eq_true rfl) hS) (fun h => absurd (by decide) h))
  · exact r_as (b := (-5)) (by decide) (lv_icmp_gt (tgt := 1438) hx hbc dL_law_30 (by decide) (fun _ => hfin _ ls _ 200 2000 (Nat.le_of_ble_eq_true rfl) (Nat.le_of_ble_eq_true rfl) hS) (fun h => absurd (by decide) h))
  · exact r_as (b := (-4)) (by decide) (lv_icmp_gt (tgt := 1438) hx hbc dL_law_30 (by decide) (fun _ => hfin _ ls _ 200 2000 (Nat.le_of_ble_eq_true rfl) (Nat.le_of_ble_eq_true rfl) hS) (fun h => absurd (by decide) h))
  · exact r_as (b := (-3)) (by decide) (lv_icmp_gt (tgt := 1438) hx hbc dL_law_30 (by decide) (fun _ => hfin _ ls _ 200 2000 (Nat.le_of_ble_eq_true rfl) (Nat.le_of_ble_eq_true rfl) hS) (fun h => absurd (by decide) h))
  · exact r_as (b := (-2)) (by decide) (lv_icmp_gt (tgt := 1438) hx hbc dL_law_30 (by decide) (fun _ => hfin _ ls _ 200 2000 (Nat.le_of_ble_eq_true rfl) (Nat.le_of_ble_eq_true rfl) hS) (fun h => absurd (by decide) h))
  · exact r_as (b := (-1)) (by decide) (lv_icmp_gt (tgt := 1438) hx hbc dL_law_30 (by decide) (fun _ => hfin _ ls _ 200 2000 (Nat.le_of_ble_eq_true rfl) (Nat.le_of_ble_eq_true rfl) hS) (fun h => absurd (by decide) h))
  · refine r_as (b := 0) (by decide) ?_
    refine lv_icmp_gt (tgt := 1438) hx hbc dL_law_30 (by decide) (fun h => absurd h (by decide)) (fun _ => ?_)
    have B : lB p s m #[Value.ref b] c G J cL a b xs := ⟨X, hKJ, hOK, hE, hN, hJ, hA, hX, hbl, hbA⟩
    have hF : ∀ (ls : Array Slot) (H : Heap) (locs : List Loc), pS G s.heap H locs → lv_has ls 9 [(4, .int 0), (0, .ref b)] → W p l e room_1 s m #[Value.ref b] below meth c H locs 300 5000 (lw_Z below #[Value.ref b] s) (F0 m 1432 ls []) := fun ls H locs hS hl => by
      refine lv_iinc (v := 6) hx hbc dL_law_1432 hl (k := 0) rfl (by decide) (by decide) rfl (fun ls hl => ?_)
      replace hl : lv_has ls 9 [(4, .int 6), (0, .ref b)] := hl
      refine lv_goto (tgt := 23) hx hbc dL_law_1435 (by decide) ?_
      refine lv_iload hx hbc dL_law_23 (lv_at hl 0 rfl) ?_
      refine lv_aload_n hx hbc dL_law_25 rfl (lv_at hl 1 rfl) ?_
      refine va_slen hx hbc hX hbl hbA hS dL_law_26 ?_
      refine lv_bipush (v := 6) hx hbc dL_law_27 (by decide) ?_
      refine lv_isub hx hbc dL_law_29 ?_
      refine r_as (b := 0) (by decide) ?_
      refine lv_icmp_gt (tgt := 1438) hx hbc dL_law_30 (by decide) (fun _ => ?_) (fun h => absurd (by decide) h)
      exact hfin H ls locs 300 5000 (Nat.le_refl _) (Nat.le_refl _) hS
    refine lv_aload_n hx hbc dL_law_33 rfl (lv_at hl 4 rfl) ?_
    refine lv_iload hx hbc dL_law_34 (lv_at hl 0 rfl) ?_
    refine z_sld (i := 0) B hS (by decide) dL_law_36 ?_
    refine lv_bipush (v := 31) hx hbc dL_law_37 (by decide) ?_
    refine lv_iand hx hbc dL_law_39 ?_
    rcases sw23 (xs 0 &&& 31) with h | h | h | h | h | h | h | h | h | h | h | h | h | h | h | h | h | h | h | h | h | h | h | h
    · refine r_as h ?_
      refine lv_tableIn (tgt := 148) hx hbc dL_law_40 (by decide) (by decide) rfl (by decide) ?_
      exact t_0 hlt B hD hM hO hS hl hF
    · refine r_as h ?_
      refine lv_tableIn (tgt := 216) hx hbc dL_law_40 (by decide) (by decide) rfl (by decide) ?_
      exact t_1 hlt B hD hM hO hS hl hF
    · refine r_as h ?_
      refine lv_tableIn (tgt := 284) hx hbc dL_law_40 (by decide) (by decide) rfl (by decide) ?_
      exact t_2 hlt B hD hM hO hS hl hF
    · refine r_as h ?_
      refine lv_tableIn (tgt := 352) hx hbc dL_law_40 (by decide) (by decide) rfl (by decide) ?_
      exact t_3 hlt B hD hM hO hS hl hF
    · refine r_as h ?_
      refine lv_tableIn (tgt := 365) hx hbc dL_law_40 (by decide) (by decide) rfl (by decide) ?_
      exact t_4 hlt B hD hM hO hS hl hF
    · refine r_as h ?_
      refine lv_tableIn (tgt := 433) hx hbc dL_law_40 (by decide) (by decide) rfl (by decide) ?_
      exact t_5 hlt B hD hM hO hS hl hF
    · refine r_as h ?_
      refine lv_tableIn (tgt := 537) hx hbc dL_law_40 (by decide) (by decide) rfl (by decide) ?_
      exact t_6 hlt B hD hM hO hS hl hF
    · refine r_as h ?_
      refine lv_tableIn (tgt := 605) hx hbc dL_law_40 (by decide) (by decide) rfl (by decide) ?_
      exact t_7 hlt B hD hM hO hS hl hF
    · refine r_as h ?_
      refine lv_tableIn (tgt := 661) hx hbc dL_law_40 (by decide) (by decide) rfl (by decide) ?_
      exact t_8 hlt B hD hM hO hS hl hF
    · refine r_as h ?_
      refine lv_tableIn (tgt := 724) hx hbc dL_law_40 (by decide) (by decide) rfl (by decide) ?_
      exact t_9 hlt B hD hM hO hS hl hF
    · refine r_as h ?_
      refine lv_tableIn (tgt := 780) hx hbc dL_law_40 (by decide) (by decide) rfl (by decide) ?_
      exact t_10 hlt B hD hM hO hS hl hF
    · refine r_as h ?_
      refine lv_tableIn (tgt := 843) hx hbc dL_law_40 (by decide) (by decide) rfl (by decide) ?_
      exact t_11 hlt B hD hM hO hS hl hF
    · refine r_as h ?_
      refine lv_tableIn (tgt := 899) hx hbc dL_law_40 (by decide) (by decide) rfl (by decide) ?_
      exact t_12 hlt B hD hM hO hS hl hF
    · refine r_as h ?_
      refine lv_tableIn (tgt := 955) hx hbc dL_law_40 (by decide) (by decide) rfl (by decide) ?_
      exact t_13 hlt B hD hM hO hS hl hF
    · refine r_as h ?_
      refine lv_tableIn (tgt := 1023) hx hbc dL_law_40 (by decide) (by decide) rfl (by decide) ?_
      exact t_14 hlt B hD hM hO hS hl hF
    · refine r_as h ?_
      refine lv_tableIn (tgt := 1036) hx hbc dL_law_40 (by decide) (by decide) rfl (by decide) ?_
      exact t_15 hlt B hD hM hO hS hl hF
    · refine r_as h ?_
      refine lv_tableIn (tgt := 1092) hx hbc dL_law_40 (by decide) (by decide) rfl (by decide) ?_
      exact t_16 hlt B hD hM hO hS hl hF
    · refine r_as h ?_
      refine lv_tableIn (tgt := 1148) hx hbc dL_law_40 (by decide) (by decide) rfl (by decide) ?_
      exact t_17 hlt B hD hM hO hS hl hF
    · refine r_as h ?_
      refine lv_tableIn (tgt := 1228) hx hbc dL_law_40 (by decide) (by decide) rfl (by decide) ?_
      exact t_18 hlt B hD hM hO hS hl hF
    · refine r_as h ?_
      refine lv_tableIn (tgt := 1241) hx hbc dL_law_40 (by decide) (by decide) rfl (by decide) ?_
      exact t_19 hlt B hD hM hO hS hl hF
    · refine r_as h ?_
      refine lv_tableIn (tgt := 1309) hx hbc dL_law_40 (by decide) (by decide) rfl (by decide) ?_
      exact t_20 hlt B hD hM hO hS hl hF
    · refine r_as h ?_
      refine lv_tableIn (tgt := 1377) hx hbc dL_law_40 (by decide) (by decide) rfl (by decide) ?_
      exact t_21 hlt B hD hM hO hS hl hF
    · refine r_as h ?_
      refine lv_tableIn (tgt := 1418) hx hbc dL_law_40 (by decide) (by decide) rfl (by decide) ?_
      exact t_22 hlt B hD hM hO hS hl hF
    · refine lv_tableOut (tgt := 1432) hx hbc dL_law_40 h (by decide) ?_
      refine W.widen (k := 300) (n := 5000) (Nat.le_of_ble_eq_true rfl) (Nat.le_of_ble_eq_true rfl) ?_
      exact hF _ _ _ hS (lv_sub hl [0, 4] rfl)
