/-! ===== the law's start ===== -/
theorem aoA_of {U : State} (h : vAOA U) : ∃ (comp c : ClassId) (k : Class), U.vm.classes[c]? = some k ∧ k.kind = .array comp (.array .int) ∧ U.vm.findClass ("[" ++ (FieldType.array .int).toString) = some c := by
  unfold vAOA Cond.before at h
  simp only [Cond.holds, Cond.value, beq_iff_eq] at h
  cases hc : U.vm.findClass (FieldType.array .int).toString with
  | none => simp [hc] at h
  | some comp =>
    simp only [hc, Option.bind_some, Option.bind_eq_some_iff, Option.map_eq_some_iff] at h
    obtain ⟨c, hi, k, hk, hb⟩ := h
    cases hkind : k.kind with
    | array component ty =>
      rw [hkind] at hb
      simp at hb
      exact ⟨component, c, k, hk, by rw [hkind, hb.1], hb.2⟩
    | _ => rw [hkind] at hb; simp at hb
theorem arrOf {U : State} {cA comp : ClassId} {k : Class} {ty : FieldType} (h1 : U.vm.classes[cA]? = some k) (h2 : k.kind = .array comp ty) : ArrOfT U cA ty := fun n z => ⟨fun k h => (by cases h), k, h1, comp, h2⟩
theorem geo {s : State} {args : Array Value} (hts : ∀ w ∈ allW, w.before args s = true) (hN : NZ s) (hA : NA s) : ∃ G : dG, G.2.2 = s.heap.size ∧ dK G s := by
  obtain ⟨c0, i0, h0⟩ := u_known (C := RX0) (T := TX0) (N := 6) (n := 6) hts inA0 (hts _ ki_X0)
  obtain ⟨c1, i1, h1⟩ := u_known (C := RX1) (T := TX1) (N := 3) (n := 3) hts inA1 (hts _ ki_X1)
  obtain ⟨c2, i2, h2⟩ := u_known (C := RX2) (T := TX2) (N := 4) (n := 4) hts inA2 (hts _ ki_X2)
  obtain ⟨c3, i3, h3⟩ := u_known (C := RX3) (T := TX3) (N := 5) (n := 5) hts inA3 (hts _ ki_X3)
  obtain ⟨c4, i4, h4⟩ := u_known (C := RX4) (T := TX4) (N := 5) (n := 5) hts inA4 (hts _ ki_X4)
  obtain ⟨c5, i5, h5⟩ := u_known (C := RX5) (T := TX5) (N := 10) (n := 10) hts inA5 (hts _ ki_X5)
  obtain ⟨a0, k0, m0, e1, e2, e3⟩ := Cond.arrayClass_spec (hts _ ka_int)
  obtain ⟨m1, a1, k1, f1, -, f2, f3, f4⟩ := Cond.arrayOver_spec hA.1
  obtain ⟨m2, a2, k2, g1, -, g2, g3, g4⟩ := Cond.arrayOver_spec hA.2.1
  obtain ⟨m3, a3, k3, j1, j2, j3⟩ := aoA_of hA.2.2
  refine ⟨((fun k => if k = 0 then c0 else if k = 1 then c1 else if k = 2 then c2 else if k = 3 then c3 else if k = 4 then c4 else c5, fun k => if k = 0 then i0 else if k = 1 then i1 else if k = 2 then i2 else if k = 3 then i3 else if k = 4 then i4 else i5), (a0, a1, a2, a3), s.heap.size), rfl, ⟨fun k q hq => ?_, fun k q hq => ?_⟩, hN⟩
  · match k, hq with
    | 0, hq => cases hq; exact h0
    | 1, hq => cases hq; exact h1
    | 2, hq => cases hq; exact h2
    | 3, hq => cases hq; exact h3
    | 4, hq => cases hq; exact h4
    | 5, hq => cases hq; exact h5
    | k + 6, hq => simp [dkCl] at hq
  · match k, hq with
    | 0, hq => cases hq; exact ⟨arrOf e2 e3, e1⟩
    | 1, hq => cases hq; exact ⟨arrOf f2 f3, k1, m1, f2, f3, f1, f4⟩
    | 2, hq => cases hq; exact ⟨arrOf g2 g3, k2, m2, g2, g3, g1, g4⟩
    | 3, hq => cases hq; exact ⟨arrOf j1 j2, j3⟩
    | k + 4, hq => simp [dT] at hq
theorem ao_X0 : Cond.arrayOver (.object RX0) ∈ lw_tbl := tb_in 49 (by decide +kernel)
theorem ao_X2 : Cond.arrayOver (.object RX2) ∈ lw_tbl := tb_in 51 (by decide +kernel)
theorem ao_AA : Cond.arrayOver (.array .int) ∈ lw_tbl := tb_in 59 (by decide +kernel)
theorem pM.x {G : dG} {E : Nat → va_E} {H : Heap} (hN : newN G E) (hP : pM G E 90 H) : xM G nu0 [] H :=
  ⟨newN_dM hN hP, fun k q h => by simp at h, ⟨fun i j x y h => by simp at h, fun k q h => by simp at h⟩, fun k q h => by simp at h, by rw [hP.1]; exact Nat.le_refl _⟩
theorem bPc_blind (G : dG) (b A B : Nat) (f g : Nat → Nat) : FrameBlind (bPc G b A B f g) := fun a U fr mk q => by
  obtain ⟨q0, q1, q2, q3, q4⟩ := q
  exact ⟨q0, q1, q2.calling, hasX.calling U fr mk a q3, q4⟩
set_option maxHeartbeats 8000000 in
set_option maxRecDepth 100000 in
theorem whole_start {p : Program} {e : Env} {s : State} {m : MethodId} {below : List Frame} {meth : Method} {c : Code} (l : Launch) (hflags : l.flags = flags0) {b L : Nat} {xs : Nat → Int32} (hL : L ≤ 260) (C0 : lw_At p s m meth c b L xs) : W p l e room_1 s m #[Value.ref b] below meth c s.heap [] 0 0 (lw_Z below #[Value.ref b] s) (entryFrame m ([Value.ref b] : List Value).toArray 17) := by
  obtain ⟨hx, hbc, hr, hml, hown, hts, hX, hbl, hlocks, hgv⟩ := id C0
  have htsA : ∀ w ∈ allW, w.before #[Value.ref b] s = true := fun w h => hts w (allW_tbl h)
  have hNA : NA s := ⟨hts _ ao_X0, hts _ ao_X2, hts _ ao_AA⟩
  have hNZ : NZ s := fun w h => by
    have h1 := hts w (List.mem_filter.mp h).1
    have h2 := (List.mem_filter.mp h).2
    cases w <;> first | exact va_Nw.of rfl h1 | exact absurd h2 (by simp [isNest])
  obtain ⟨G, hGb, hK⟩ := geo htsA hNZ hNA
  have X : dC p s m #[Value.ref b] c code 17 RL G := ⟨hx, hbc, hml, hown, htsA, hK⟩
  have hl := lv_entry ([.ref b]) (n := 17) (Nat.le_of_ble_eq_true rfl)
  rw [lg_entry_eq]
  generalize (lg_sl ([.ref b]) ++ List.replicate (17 - (lg_sl ([.ref b])).length) Slot.unset).toArray = ls at hl ⊢
  replace hl : lv_has ls 17 [(0, .ref b)] := hl
  have hbG : b < G.2.2 := by rw [hGb]; exact hbl
  have hXs : hasX b s := ⟨L, xs, hL, hbl, hX⟩
  have hS : pS G s.heap s.heap [] := va_S.rf
  have hP : pM G (fun _ => .inr (0, [])) 0 s.heap := ⟨by rw [hGb]; rfl, fun i hi => by omega⟩
  have hfin : ∀ (pc : Nat) (H : Heap) (ls : Array Slot) (locs : List Loc), decode code pc = .ok (.ireturn, 1) → pS G s.heap H locs → W p l e room_1 s m #[Value.ref b] below meth c H locs 600086 7301442 (lw_Z below #[Value.ref b] s) (F0 m pc ls [.int (nI 1)]) := fun pc H ls locs hd hS => by
    refine va_forget (fun q hq => ?_) ?_
    · have := hS.2.2 q hq
      rw [← hGb]; exact this
    · exact lw_ret hx hbc hr hlocks hd
  refine p_new (ci := 5) (C := RX5) (T := TX5) (N := 10) (fs := [.null, .null, .null, .null, .null, .int (nI 0), .int (nI 0), .int (nI 0), .int (nI 0), .int (nI 0)]) X hP hS inA5 tyX5_ok kc_L_20 ki_X5 kn_X5 rfl (fun j hj => by rcases (show j = 0 ∨ j = 1 ∨ j = 2 ∨ j = 3 ∨ j = 4 ∨ j = 5 ∨ j = 6 ∨ j = 7 ∨ j = 8 ∨ j = 9 by omega) with rfl | rfl | rfl | rfl | rfl | rfl | rfl | rfl | rfl | rfl <;> rfl) (Nat.le_of_ble_eq_true rfl) (Nat.le_of_ble_eq_true rfl) dL_law_0 (fun H hP hS => ?_)
  refine lv_dup hx hbc dL_law_3 rfl ?_
  refine va_callv (va_runI (As := []) (rest := [.ref (ra G 0)]) ⟨X.1, X.2.1, X.2.2.1, X.2.2.2.1, X.2.2.2.2.1⟩ (c_X5_init (va_up_self _ _ _) H.size) ⟨callB_of 0 X.2.2.2.2.1 (goodIn_all (fun _ h => h) mi_X5.2) rfl rfl rfl (X.2.2.2.2.1 _ kn_X5) (X.2.2.2.2.1 _ kl_L_55) ⟨by decide +kernel, by decide +kernel, by decide +kernel⟩ ⟨Nat.le_of_ble_eq_true rfl, Nat.le_of_ble_eq_true rfl⟩, rfl, X.2.2.2.2.1 _ mi_X5.1⟩ ⟨nPc_blind _ _ _ _ _, fun U hU hW => ⟨rfl, by rw [hU], by rw [hU]; exact hP, X.2.2.2.2.2.warm hW, hNA.moved hW.alike⟩⟩ rfl rfl hl.1 rfl (lv_room (Nat.le_of_ble_eq_true rfl)) dL_law_4 ⟨Nat.le_of_ble_eq_true rfl, Nat.le_of_ble_eq_true rfl⟩) hS (fun q _ h => h) (fun q h => h) (fun E t H locs ht hvm hw hB _ _ hS => ?_)
  rw [ht] at hB
  have hM : xM G nu0 [] H := pM.x hw hB
  refine lv_astore_n X.1 X.2.1 dL_law_7 rfl hl (by decide) rfl (fun ls hl => ?_)
  replace hl : lv_has ls 17 [(1, .ref (ra G 0)), (0, .ref b)] := hl
  refine tn_bi (v := 30) X dL_law_8 (by decide) ?_
  refine x_newI (ws' := fun a => [(a, aI G 30 (fun _ => 0))]) X hM hS (by decide) (Nat.le_of_ble_eq_true rfl) (Nat.le_of_ble_eq_true rfl) (fun _ => rfl) dL_law_10 (fun A H hM hS => ?_)
  refine lv_astore_n X.1 X.2.1 dL_law_12 rfl hl (by decide) rfl (fun ls hl => ?_)
  replace hl : lv_has ls 17 [(2, .ref A), (1, .ref (ra G 0)), (0, .ref b)] := hl
  refine tn_bi (v := 48) X dL_law_13 (by decide) ?_
  refine x_newI (ws' := fun a => [(A, aI G 30 (fun _ => 0)), (a, aI G 48 (fun _ => 0))]) X hM hS (by decide) (Nat.le_of_ble_eq_true rfl) (Nat.le_of_ble_eq_true rfl) (fun _ => rfl) dL_law_15 (fun B H hM hS => ?_)
  refine lv_astore_n X.1 X.2.1 dL_law_17 rfl hl (by decide) rfl (fun ls hl => ?_)
  replace hl : lv_has ls 17 [(3, .ref B), (2, .ref A), (1, .ref (ra G 0)), (0, .ref b)] := hl
  refine lv_aload_n X.1 X.2.1 dL_law_18 rfl (lv_at hl 2 rfl) ?_
  refine lv_aload_n X.1 X.2.1 dL_law_19 rfl (lv_at hl 3 rfl) ?_
  refine tn_ic (v := 0) X dL_law_20 (by decide) ?_
  refine tn_ic (v := 5) X dL_law_21 (by decide) ?_
  refine tn_ic (v := 5) X dL_law_22 (by decide) ?_
  refine lv_aload_n X.1 X.2.1 dL_law_23 rfl (lv_at hl 1 rfl) ?_
  refine lv_aload_n X.1 X.2.1 dL_law_24 rfl (lv_at hl 0 rfl) ?_
  refine va_callr (va_runS (As := [.ref (ra G 0), .ref b, .int (nI 0), .int (nI 5), .int (nI 5), .ref A, .ref B]) (rest := []) ⟨X.1, X.2.1, X.2.2.1, X.2.2.2.1, X.2.2.2.2.1⟩ (c_L_build (f0 := fun _ => 0) (g0 := fun _ => 0)) ⟨callB_of 7 X.2.2.2.2.1 (goodIn_all (fun _ h => h) mf_L_build.2.2.1) rfl rfl rfl (X.2.2.2.2.1 _ mf_L_build.2.1) (X.2.2.2.2.1 _ kl_L_56) mf_L_build.2.2.2 ⟨Nat.le_of_ble_eq_true rfl, Nat.le_of_ble_eq_true rfl⟩, X.2.2.2.2.1 _ mf_L_build.1⟩ ⟨bPc_blind _ _ _ _ _ _, fun U hU hW => ⟨rfl, by rw [hU]; exact hM, X.2.2.2.2.2.warm hW, hXs.go hbG hS U hU hW, hbG⟩⟩ rfl rfl hl.1 rfl (lv_room (Nat.le_of_ble_eq_true rfl)) dL_law_25 ⟨Nat.le_of_ble_eq_true rfl, Nat.le_of_ble_eq_true rfl⟩) hS (fun q _ h => h) (fun q h => h) (fun u C t H locs ht hvm hw hB _ _ hS => ?_)
  rw [ht] at hB
  obtain ⟨ν, many, all⟩ := u
  obtain ⟨hm1, hm5, ha5, hBk⟩ := hw
  refine W.widen (k := 600086) (n := 7301442) (Nat.le_of_ble_eq_true rfl) (Nat.le_of_ble_eq_true rfl) ?_
  refine lv_astore X.1 X.2.1 dL_law_28 hl (by decide) rfl (fun ls hl => ?_)
  replace hl : lv_has ls 17 [(4, .ref C), (3, .ref B), (2, .ref A), (1, .ref (ra G 0)), (0, .ref b)] := hl
  refine lv_aload X.1 X.2.1 dL_law_30 (lv_at hl 0 rfl) ?_
  refine lv_ifnonnull (tgt := 37) X.1 X.2.1 dL_law_32 (by decide) ?_
  exact t_37 X hXs hbG hm1 hm5 ha5 hfin ν hBk ls H locs hB hS (lv_sub hl [0, 3, 4] rfl)
