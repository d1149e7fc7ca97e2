/-! ===== Tray: ranks, bundles, apply, lay ===== -/
set_option maxHeartbeats 4000000 in
set_option maxRecDepth 100000 in
theorem c_X4_rankMatched {l : Launch} {G : dG} {ν : Mm} {q r : Nat} (hq : q < 8) (hr : r < 9) (hcs : ν (22 + q) 2 < 2 ^ 31) (hn : ν 7 4 ≤ 60) (hct : ∀ i, i < ν 7 4 → ν 9 i < 32) (hf : ∀ i, i < ν 7 4 → ν (11 + r) i ≤ 10000) : cI l yX4_rankMatched cX4_rankMatched 6 (some .int) 1 G [.ref (ra G 7), .ref (ra G (22 + q)), .ref (ra G (11 + r))] ν (fun x ν' => x = (rkS (ν 9) (ν (22 + q) 2) (ν (11 + r)) (ν 7 4)).1 ∧ off1 20 ν ν' ∧ ∀ j, j < (rkS (ν 9) (ν (22 + q) 2) (ν (11 + r)) (ν 7 4)).1 → ν' 20 j = (rkS (ν 9) (ν (22 + q) 2) (ν (11 + r)) (ν 7 4)).2 j) := by
  refine cI_of (by decide +kernel) (Nat.le_of_ble_eq_true rfl) ?_
  intro p e s m args below meth c ls X hM hret hlk hl
  have hS : dS G s.heap s.heap [] := va_S.rf
  refine tn_ic (v := 0) X dX4_rankMatched_0 (by decide) ?_
  refine lv_istore_n X.1 X.2.1 dX4_rankMatched_1 rfl hl (by decide) rfl (fun ls hl => ?_)
  replace hl : lv_has ls 6 [(3, _), (0, _), (1, _), (2, _)] := hl
  refine tn_ic (v := 0) X dX4_rankMatched_2 (by decide) ?_
  refine lv_istore X.1 X.2.1 dX4_rankMatched_3 hl (by decide) rfl (fun ls hl => ?_)
  replace hl : lv_has ls 6 [(4, _), (3, _), (0, _), (1, _), (2, _)] := hl
  have Lp : ∀ (k : Nat) (i : Nat) (μ : Mm), i + k = ν 7 4 → off1 20 ν μ → (∀ j, j < (rkS (ν 9) (ν (22 + q) 2) (ν (11 + r)) i).1 → μ 20 j = (rkS (ν 9) (ν (22 + q) 2) (ν (11 + r)) i).2 j) → ∀ (ls : Array Slot) (H : Heap) (locs : List Loc), dM G μ H → dS G s.heap H locs → lv_has ls 6 [(0, .ref (ra G 7)), (1, .ref (ra G (22 + q))), (2, .ref (ra G (11 + r))), (3, .int (nI (rkS (ν 9) (ν (22 + q) 2) (ν (11 + r)) i).1)), (4, .int (nI i))] → W p l e (rmD 1) s m args below meth c H locs 0 0 (MQ below (dQi G s.heap.size (fun x ν' => x = (rkS (ν 9) (ν (22 + q) 2) (ν (11 + r)) (ν 7 4)).1 ∧ off1 20 ν ν' ∧ ∀ j, j < (rkS (ν 9) (ν (22 + q) 2) (ν (11 + r)) (ν 7 4)).1 → ν' 20 j = (rkS (ν 9) (ν (22 + q) 2) (ν (11 + r)) (ν 7 4)).2 j)) args s 0 0 (dA G s.heap.size)) (F0 m 5 ls []) := by
    intro k
    induction k with
    | zero =>
      intro i μ hi hof hg ls H locs hM hS hl
      have e7 : μ 7 = ν 7 := hof 7 (by omega)
      have e9 : μ 9 = ν 9 := hof 9 (by omega)
      have eqq : μ (22 + q) = ν (22 + q) := hof (22 + q) (by omega)
      have e74 : μ 7 4 = ν 7 4 := by rw [e7]
      have hki := rkS_le (ν 9) (ν (22 + q) 2) (ν (11 + r)) i
      refine lv_iload X.1 X.2.1 dX4_rankMatched_5 (lv_at hl 4 rfl) ?_
      refine lv_aload_n X.1 X.2.1 dX4_rankMatched_7 rfl (lv_at hl 0 rfl) ?_
      refine m_get (ci := 4) (C := RX4) (T := TX4) (N := 5) X hM inA4 (by decide) (dE_tray G _) rfl 4 (by decide) kl_X4_26 rfl rfl dX4_rankMatched_8 ?_
      refine tn_ge (tgt := 94) X dX4_rankMatched_11 (by decide) (by omega) (by omega) (fun h11 => ?_) (fun h11 => ?_)
      · refine lv_iload_n X.1 X.2.1 dX4_rankMatched_94 rfl (lv_at hl 3 rfl) ?_
        exact rI ⟨by rw [show i = ν 7 4 by omega], hof, by rw [show ν 7 4 = i by omega]; exact hg⟩ X hM hS hret hlk dX4_rankMatched_95
      · exfalso; omega
    | succ k ih =>
      intro i μ hi hof hg ls H locs hM hS hl
      have e7 : μ 7 = ν 7 := hof 7 (by omega)
      have e9 : μ 9 = ν 9 := hof 9 (by omega)
      have eqq : μ (22 + q) = ν (22 + q) := hof (22 + q) (by omega)
      have e74 : μ 7 4 = ν 7 4 := by rw [e7]
      have hki := rkS_le (ν 9) (ν (22 + q) 2) (ν (11 + r)) i
      refine lv_iload X.1 X.2.1 dX4_rankMatched_5 (lv_at hl 4 rfl) ?_
      refine lv_aload_n X.1 X.2.1 dX4_rankMatched_7 rfl (lv_at hl 0 rfl) ?_
      refine m_get (ci := 4) (C := RX4) (T := TX4) (N := 5) X hM inA4 (by decide) (dE_tray G _) rfl 4 (by decide) kl_X4_26 rfl rfl dX4_rankMatched_8 ?_
      refine tn_ge (tgt := 94) X dX4_rankMatched_11 (by decide) (by omega) (by omega) (fun h11 => ?_) (fun h11 => ?_)
      · exfalso; omega
      · refine lv_aload_n X.1 X.2.1 dX4_rankMatched_14 rfl (lv_at hl 1 rfl) ?_
        refine lv_aload_n X.1 X.2.1 dX4_rankMatched_15 rfl (lv_at hl 0 rfl) ?_
        refine m_get (ci := 4) (C := RX4) (T := TX4) (N := 5) X hM inA4 (by decide) (dE_tray G _) rfl 1 (by decide) kl_X4_15 rfl rfl dX4_rankMatched_16 ?_
        refine lv_iload X.1 X.2.1 dX4_rankMatched_19 (lv_at hl 4 rfl) ?_
        refine m_iald X hM (by decide) (dE_tC G _) (by omega) (by decide) dX4_rankMatched_21 ?_
        refine kNI (As := [_]) X hM hS hl.1 (c_X0_isMatchedBy hq (by rw [eqq]; exact hcs) (by rw [e9]; exact hct i (by omega))) (by omega) (dE_cou hq G _) rfl rfl kl_X4_60 mf_X0_isMatchedBy ⟨Nat.le_of_ble_eq_true rfl, Nat.le_of_ble_eq_true rfl⟩ ⟨Nat.zero_le _, Nat.zero_le _⟩ rfl (Nat.le_of_ble_eq_true rfl) dX4_rankMatched_22 (fun r22 ν22 H locs hp22 hM hS => ?_)
        obtain ⟨rfl, e22⟩ := hp22
        replace e22 := e22.symm
        subst e22
        refine tn_eq0 (tgt := 88) X dX4_rankMatched_25 (by decide) (by have := bt_le (μ (22 + q) 2) (μ 9 i); omega) (fun h25 => ?_) (fun h25 => ?_)
        · refine tn_inc (k := 4) (w := 1) X dX4_rankMatched_88 hl rfl (by decide) (by decide) rfl (fun ls hl => ?_)
          replace hl : lv_has ls 6 [(4, _), (0, _), (1, _), (2, _), (3, _)] := hl
          refine lv_goto (tgt := 5) X.1 X.2.1 dX4_rankMatched_91 (by decide) ?_
          have e : rkS (ν 9) (ν (22 + q) 2) (ν (11 + r)) (i + 1) = (rkS (ν 9) (ν (22 + q) 2) (ν (11 + r)) i) := if_neg (by rw [← eqq, ← e9]; omega)
          exact ih (i + 1) μ (by omega) hof (by rw [e]; exact hg) ls H locs hM hS (by rw [e]; exact (lv_sub hl [1, 2, 3, 4, 0] rfl))
        · refine lv_iload_n X.1 X.2.1 dX4_rankMatched_28 rfl (lv_at hl 3 rfl) ?_
          refine lv_istore X.1 X.2.1 dX4_rankMatched_29 hl (by decide) rfl (fun ls hl => ?_)
          replace hl : lv_has ls 6 [(5, _), (0, _), (1, _), (2, _), (3, _), (4, _)] := hl
          have hb1 : bt (ν (22 + q) 2) (ν 9 i) = 1 := by have := bt_le (μ (22 + q) 2) (μ 9 i); rw [← eqq, ← e9]; omega
          have Lp2 : ∀ (k : Nat) (t : Nat) (κ : Mm), t = k → t ≤ (rkS (ν 9) (ν (22 + q) 2) (ν (11 + r)) i).1 → off1 20 ν κ → (∀ j, j < t → κ 20 j = (rkS (ν 9) (ν (22 + q) 2) (ν (11 + r)) i).2 j) → (∀ j, t < j → j ≤ (rkS (ν 9) (ν (22 + q) 2) (ν (11 + r)) i).1 → κ 20 j = (rkS (ν 9) (ν (22 + q) 2) (ν (11 + r)) i).2 (j - 1)) → (insP (ν (11 + r)) (rkS (ν 9) (ν (22 + q) 2) (ν (11 + r)) i).2 (ν (11 + r) i) t) = (insP (ν (11 + r)) (rkS (ν 9) (ν (22 + q) 2) (ν (11 + r)) i).2 (ν (11 + r) i) (rkS (ν 9) (ν (22 + q) 2) (ν (11 + r)) i).1) → ∀ (ls : Array Slot) (H : Heap) (locs : List Loc), dM G κ H → dS G s.heap H locs → lv_has ls 6 [(0, .ref (ra G 7)), (1, .ref (ra G (22 + q))), (2, .ref (ra G (11 + r))), (3, .int (nI (rkS (ν 9) (ν (22 + q) 2) (ν (11 + r)) i).1)), (4, .int (nI i)), (5, .int (nI t))] → W p l e (rmD 1) s m args below meth c H locs 0 0 (MQ below (dQi G s.heap.size (fun x ν' => x = (rkS (ν 9) (ν (22 + q) 2) (ν (11 + r)) (ν 7 4)).1 ∧ off1 20 ν ν' ∧ ∀ j, j < (rkS (ν 9) (ν (22 + q) 2) (ν (11 + r)) (ν 7 4)).1 → ν' 20 j = (rkS (ν 9) (ν (22 + q) 2) (ν (11 + r)) (ν 7 4)).2 j)) args s 0 0 (dA G s.heap.size)) (F0 m 31 ls []) := by
            intro k
            induction k with
            | zero =>
              intro t κ ht htm hof2 hlow hhigh hins ls H locs hM hS hl
              have e7 : κ 7 = ν 7 := hof2 7 (by omega)
              have er : κ (11 + r) = ν (11 + r) := hof2 (11 + r) (by omega)
              refine lv_iload X.1 X.2.1 dX4_rankMatched_31 (lv_at hl 5 rfl) ?_
              refine tn_le0 (tgt := 76) X dX4_rankMatched_33 (by decide) (by omega) (fun h33 => ?_) (fun h33 => ?_)
              · have hstop : (insP (ν (11 + r)) (rkS (ν 9) (ν (22 + q) 2) (ν (11 + r)) i).2 (ν (11 + r) i) t) = t := by rw [show t = 0 by omega]; rfl
                refine lv_aload_n X.1 X.2.1 dX4_rankMatched_76 rfl (lv_at hl 0 rfl) ?_
                refine m_get (ci := 4) (C := RX4) (T := TX4) (N := 5) X hM inA4 (by decide) (dE_tray G _) rfl 3 (by decide) kl_X4_23 rfl rfl dX4_rankMatched_77 ?_
                refine lv_iload X.1 X.2.1 dX4_rankMatched_80 (lv_at hl 5 rfl) ?_
                refine lv_iload X.1 X.2.1 dX4_rankMatched_82 (lv_at hl 4 rfl) ?_
                refine m_iast X hM hS (by decide) (fun _ => (dE_tK G _)) (by omega) (by decide) dX4_rankMatched_84 (fun H locs hM hS => ?_)
                refine tn_inc (k := 3) (w := 1) X dX4_rankMatched_85 hl rfl (by decide) (by decide) rfl (fun ls hl => ?_)
                replace hl : lv_has ls 6 [(3, _), (0, _), (1, _), (2, _), (4, _), (5, _)] := hl
                refine tn_inc (k := 4) (w := 1) X dX4_rankMatched_88 hl rfl (by decide) (by decide) rfl (fun ls hl => ?_)
                replace hl : lv_has ls 6 [(4, _), (3, _), (0, _), (1, _), (2, _), (5, _)] := hl
                refine lv_goto (tgt := 5) X.1 X.2.1 dX4_rankMatched_91 (by decide) ?_
                have e : rkS (ν 9) (ν (22 + q) 2) (ν (11 + r)) (i + 1) = _ := if_pos hb1
                refine ih (i + 1) _ (by omega) hof2.up ?_ ls H locs hM hS (by rw [e]; exact (lv_sub hl [2, 3, 4, 1, 0] rfl))
                rw [e, ← hins, hstop]
                intro j hj
                rw [up2_row]
                have hj : j < (rkS (ν 9) (ν (22 + q) 2) (ν (11 + r)) i).1 + 1 := hj
                show va_up (κ 20) t i j = if j < t then _ else if j = t then i else _
                by_cases c1 : j < t
                · rw [if_pos c1, va_up_ne _ _ (by omega)]; exact hlow j c1
                · rw [if_neg c1]
                  by_cases c2 : j = t
                  · rw [if_pos c2, c2, va_up_self]
                  · rw [if_neg c2, va_up_ne _ _ c2]; exact hhigh j (by omega) (by omega)
              · exfalso; omega
            | succ k ih2 =>
              intro t κ ht htm hof2 hlow hhigh hins ls H locs hM hS hl
              have e7 : κ 7 = ν 7 := hof2 7 (by omega)
              have er : κ (11 + r) = ν (11 + r) := hof2 (11 + r) (by omega)
              refine lv_iload X.1 X.2.1 dX4_rankMatched_31 (lv_at hl 5 rfl) ?_
              refine tn_le0 (tgt := 76) X dX4_rankMatched_33 (by decide) (by omega) (fun h33 => ?_) (fun h33 => ?_)
              · exfalso; omega
              · subst ht
                have hx0 : κ 20 k = (rkS (ν 9) (ν (22 + q) 2) (ν (11 + r)) i).2 k := hlow k (by omega)
                have hx2 : κ 20 k < ν 7 4 := by rw [hx0]; have := rkS_lt (ν 9) (ν (22 + q) 2) (ν (11 + r)) i k (by omega); omega
                have hx1 : κ 20 k < 60 := by omega
                refine lv_aload_n X.1 X.2.1 dX4_rankMatched_36 rfl (lv_at hl 2 rfl) ?_
                refine lv_aload_n X.1 X.2.1 dX4_rankMatched_37 rfl (lv_at hl 0 rfl) ?_
                refine m_get (ci := 4) (C := RX4) (T := TX4) (N := 5) X hM inA4 (by decide) (dE_tray G _) rfl 3 (by decide) kl_X4_23 rfl rfl dX4_rankMatched_38 ?_
                refine lv_iload X.1 X.2.1 dX4_rankMatched_41 (lv_at hl 5 rfl) ?_
                refine tn_ic (v := 1) X dX4_rankMatched_43 (by decide) ?_
                refine tn_sub X dX4_rankMatched_44 (by omega) ?_
                refine m_iald X hM (by decide) (dE_tK G _) (by omega) (by decide) dX4_rankMatched_45 ?_
                refine m_iald X hM (by omega) (dE_row hr G _) hx1 (by decide) dX4_rankMatched_46 ?_
                refine lv_aload_n X.1 X.2.1 dX4_rankMatched_47 rfl (lv_at hl 2 rfl) ?_
                refine lv_iload X.1 X.2.1 dX4_rankMatched_48 (lv_at hl 4 rfl) ?_
                refine m_iald X hM (by omega) (dE_row hr G _) (by omega) (by decide) dX4_rankMatched_50 ?_
                refine tn_ge (tgt := 76) X dX4_rankMatched_51 (by decide) (by rw [er, Nat.add_sub_cancel]; have := hf _ hx2; omega) (by rw [er]; have := hf i (by omega); omega) (fun h51 => ?_) (fun h51 => ?_)
                · have hstop : (insP (ν (11 + r)) (rkS (ν 9) (ν (22 + q) 2) (ν (11 + r)) i).2 (ν (11 + r) i) (k + 1)) = k + 1 := if_neg (by rw [Nat.add_sub_cancel, hlow k (by omega), er] at h51; omega)
                  refine lv_aload_n X.1 X.2.1 dX4_rankMatched_76 rfl (lv_at hl 0 rfl) ?_
                  refine m_get (ci := 4) (C := RX4) (T := TX4) (N := 5) X hM inA4 (by decide) (dE_tray G _) rfl 3 (by decide) kl_X4_23 rfl rfl dX4_rankMatched_77 ?_
                  refine lv_iload X.1 X.2.1 dX4_rankMatched_80 (lv_at hl 5 rfl) ?_
                  refine lv_iload X.1 X.2.1 dX4_rankMatched_82 (lv_at hl 4 rfl) ?_
                  refine m_iast X hM hS (by decide) (fun _ => (dE_tK G _)) (by omega) (by decide) dX4_rankMatched_84 (fun H locs hM hS => ?_)
                  refine tn_inc (k := 3) (w := 1) X dX4_rankMatched_85 hl rfl (by decide) (by decide) rfl (fun ls hl => ?_)
                  replace hl : lv_has ls 6 [(3, _), (0, _), (1, _), (2, _), (4, _), (5, _)] := hl
                  refine tn_inc (k := 4) (w := 1) X dX4_rankMatched_88 hl rfl (by decide) (by decide) rfl (fun ls hl => ?_)
                  replace hl : lv_has ls 6 [(4, _), (3, _), (0, _), (1, _), (2, _), (5, _)] := hl
                  refine lv_goto (tgt := 5) X.1 X.2.1 dX4_rankMatched_91 (by decide) ?_
                  have e : rkS (ν 9) (ν (22 + q) 2) (ν (11 + r)) (i + 1) = _ := if_pos hb1
                  refine ih (i + 1) _ (by omega) hof2.up ?_ ls H locs hM hS (by rw [e]; exact (lv_sub hl [2, 3, 4, 1, 0] rfl))
                  rw [e, ← hins, hstop]
                  intro j hj
                  rw [up2_row]
                  have hj : j < (rkS (ν 9) (ν (22 + q) 2) (ν (11 + r)) i).1 + 1 := hj
                  show va_up (κ 20) (k + 1) i j = if j < (k + 1) then _ else if j = (k + 1) then i else _
                  by_cases c1 : j < (k + 1)
                  · rw [if_pos c1, va_up_ne _ _ (by omega)]; exact hlow j c1
                  · rw [if_neg c1]
                    by_cases c2 : j = (k + 1)
                    · rw [if_pos c2, c2, va_up_self]
                    · rw [if_neg c2, va_up_ne _ _ c2]; exact hhigh j (by omega) (by omega)
                · refine lv_aload_n X.1 X.2.1 dX4_rankMatched_54 rfl (lv_at hl 0 rfl) ?_
                  refine m_get (ci := 4) (C := RX4) (T := TX4) (N := 5) X hM inA4 (by decide) (dE_tray G _) rfl 3 (by decide) kl_X4_23 rfl rfl dX4_rankMatched_55 ?_
                  refine lv_iload X.1 X.2.1 dX4_rankMatched_58 (lv_at hl 5 rfl) ?_
                  refine lv_aload_n X.1 X.2.1 dX4_rankMatched_60 rfl (lv_at hl 0 rfl) ?_
                  refine m_get (ci := 4) (C := RX4) (T := TX4) (N := 5) X hM inA4 (by decide) (dE_tray G _) rfl 3 (by decide) kl_X4_23 rfl rfl dX4_rankMatched_61 ?_
                  refine lv_iload X.1 X.2.1 dX4_rankMatched_64 (lv_at hl 5 rfl) ?_
                  refine tn_ic (v := 1) X dX4_rankMatched_66 (by decide) ?_
                  refine tn_sub X dX4_rankMatched_67 (by omega) ?_
                  refine m_iald X hM (by decide) (dE_tK G _) (by omega) (by decide) dX4_rankMatched_68 ?_
                  refine m_iast X hM hS (by decide) (fun _ => (dE_tK G _)) (by omega) (by decide) dX4_rankMatched_69 (fun H locs hM hS => ?_)
                  refine tn_dec (k := 5) X dX4_rankMatched_70 hl rfl (by omega) (by decide) rfl (fun ls hl => ?_)
                  replace hl : lv_has ls 6 [(5, _), (0, _), (1, _), (2, _), (3, _), (4, _)] := hl
                  refine lv_goto (tgt := 31) X.1 X.2.1 dX4_rankMatched_73 (by decide) ?_
                  refine ih2 k _ rfl (by omega) hof2.up (fun j hj => ?_) (fun j hj hj2 => ?_) ?_ ls H locs hM hS (lv_sub hl [1, 2, 3, 4, 5, 0] rfl)
                  · rw [up2_row, va_up_ne _ _ (by omega)]; exact hlow j (by omega)
                  · rw [up2_row]
                    by_cases c1 : j = k + 1
                    · rw [c1, va_up_self]; exact hlow k (by omega)
                    · rw [va_up_ne _ _ c1]; exact hhigh j (by omega) hj2
                  · rw [← hins]; exact (if_pos (by rw [Nat.add_sub_cancel, hlow k (by omega), er] at h51; exact h51)).symm
          exact Lp2 (rkS (ν 9) (ν (22 + q) 2) (ν (11 + r)) i).1 (rkS (ν 9) (ν (22 + q) 2) (ν (11 + r)) i).1 μ rfl (Nat.le_refl _) hof hg (fun j h1 h2 => absurd h1 (by omega)) rfl ls _ _ hM hS (lv_sub hl [1, 2, 3, 4, 5, 0] rfl)
  exact Lp (ν 7 4) 0 ν (by omega) (off1_rf _ _) (fun j h => absurd h (Nat.not_lt_zero j)) ls _ _ hM hS (lv_sub hl [2, 3, 4, 1, 0] rfl)

set_option maxHeartbeats 4000000 in
set_option maxRecDepth 100000 in
theorem c_X4_takeBundles {l : Launch} {G : dG} {ν : Mm} {q r : Nat} (hq : q < 8) (hr : r < 9) (hcs : ν (22 + q) 2 < 2 ^ 31) (hn : ν 7 4 ≤ 60) (hct : ∀ i, i < ν 7 4 → ν 9 i < 32) (hv : ν (22 + q) 1 ≤ 100000) (hf : ∀ i, i < ν 7 4 → ν (11 + r) i ≤ 10000) : cV l yX4_takeBundles cX4_takeBundles 6 2 G [.ref (ra G 7), .ref (ra G (22 + q)), .ref (ra G (11 + r))] ν (fun ν' => off2 20 (11 + r) ν ν' ∧ ν' (11 + r) = tbF (ν 7 4) (ν 9) (ν (22 + q) 2) (ν (22 + q) 1) (ν (11 + r))) := by
  refine cV_of (by decide +kernel) (Nat.le_of_ble_eq_true rfl) ?_
  intro p e s m args below meth c ls X hM hret hlk hl
  have hS : dS G s.heap s.heap [] := va_S.rf
  refine lv_aload_n X.1 X.2.1 dX4_takeBundles_0 rfl (lv_at hl 0 rfl) ?_
  refine lv_aload_n X.1 X.2.1 dX4_takeBundles_1 rfl (lv_at hl 1 rfl) ?_
  refine lv_aload_n X.1 X.2.1 dX4_takeBundles_2 rfl (lv_at hl 2 rfl) ?_
  refine kVI (As := [_, _]) X hM hS hl.1 (c_X4_rankMatched hq hr hcs hn hct hf) (by decide) (dE_tray G _) rfl rfl kl_X4_81 mf_X4_rankMatched ⟨Nat.le_of_ble_eq_true rfl, Nat.le_of_ble_eq_true rfl⟩ ⟨Nat.zero_le _, Nat.zero_le _⟩ rfl (Nat.le_of_ble_eq_true rfl) dX4_takeBundles_3 (fun r3 ν3 H locs hp3 hM hS => ?_)
  obtain ⟨rfl, hof3, hg3⟩ := hp3
  refine lv_istore_n X.1 X.2.1 dX4_takeBundles_6 rfl hl (by decide) rfl (fun ls hl => ?_)
  replace hl : lv_has ls 6 [(3, _), (0, _), (1, _), (2, _)] := hl
  refine tn_ic (v := 0) X dX4_takeBundles_7 (by decide) ?_
  refine lv_istore X.1 X.2.1 dX4_takeBundles_8 hl (by decide) rfl (fun ls hl => ?_)
  replace hl : lv_has ls 6 [(4, _), (3, _), (0, _), (1, _), (2, _)] := hl
  refine tn_ic (v := 0) X dX4_takeBundles_10 (by decide) ?_
  refine lv_istore X.1 X.2.1 dX4_takeBundles_11 hl (by decide) rfl (fun ls hl => ?_)
  replace hl : lv_has ls 6 [(5, _), (4, _), (3, _), (0, _), (1, _), (2, _)] := hl
  have Lp : ∀ (k : Nat) (i : Nat) (μ : Mm), i + k = (rkS (ν 9) (ν (22 + q) 2) (ν (11 + r)) (ν 7 4)).1 → off2 20 (11 + r) ν μ → (∀ j, j < (rkS (ν 9) (ν (22 + q) 2) (ν (11 + r)) (ν 7 4)).1 → μ 20 j = (rkS (ν 9) (ν (22 + q) 2) (ν (11 + r)) (ν 7 4)).2 j) → μ (11 + r) = (tbS (ν (22 + q) 1) (rkS (ν 9) (ν (22 + q) 2) (ν (11 + r)) (ν 7 4)).2 i (0, ν (11 + r))).2 → ∀ (ls : Array Slot) (H : Heap) (locs : List Loc), dM G μ H → dS G s.heap H locs → lv_has ls 6 [(0, .ref (ra G 7)), (1, .ref (ra G (22 + q))), (2, .ref (ra G (11 + r))), (3, .int (nI (rkS (ν 9) (ν (22 + q) 2) (ν (11 + r)) (ν 7 4)).1)), (4, .int (nI (tbS (ν (22 + q) 1) (rkS (ν 9) (ν (22 + q) 2) (ν (11 + r)) (ν 7 4)).2 i (0, ν (11 + r))).1)), (5, .int (nI i))] → W p l e (rmD 2) s m args below meth c H locs 0 0 (MQ below (dQv G s.heap.size (fun ν' => off2 20 (11 + r) ν ν' ∧ ν' (11 + r) = tbF (ν 7 4) (ν 9) (ν (22 + q) 2) (ν (22 + q) 1) (ν (11 + r)))) args s 0 0 (dA G s.heap.size)) (F0 m 13 ls []) := by
    intro k
    induction k with
    | zero =>
      intro i μ hi hof hg hro ls H locs hM hS hl
      have eqq : μ (22 + q) = ν (22 + q) := hof (22 + q) (by omega) (by omega)
      have hkn := rkS_le (ν 9) (ν (22 + q) 2) (ν (11 + r)) (ν 7 4)
      have hti := tbS_1 (ν (22 + q) 1) (rkS (ν 9) (ν (22 + q) 2) (ν (11 + r)) (ν 7 4)).2 (ν (11 + r)) i
      refine lv_iload X.1 X.2.1 dX4_takeBundles_13 (lv_at hl 5 rfl) ?_
      refine lv_iload_n X.1 X.2.1 dX4_takeBundles_15 rfl (lv_at hl 3 rfl) ?_
      refine tn_ge (tgt := 50) X dX4_takeBundles_16 (by decide) (by omega) (by omega) (fun h16 => ?_) (fun h16 => ?_)
      · exact rV ⟨hof, by rw [hro, show i = (rkS (ν 9) (ν (22 + q) 2) (ν (11 + r)) (ν 7 4)).1 by omega]; rfl⟩ X hM hS hret hlk dX4_takeBundles_50
      · exfalso; omega
    | succ k ih =>
      intro i μ hi hof hg hro ls H locs hM hS hl
      have eqq : μ (22 + q) = ν (22 + q) := hof (22 + q) (by omega) (by omega)
      have hkn := rkS_le (ν 9) (ν (22 + q) 2) (ν (11 + r)) (ν 7 4)
      have hti := tbS_1 (ν (22 + q) 1) (rkS (ν 9) (ν (22 + q) 2) (ν (11 + r)) (ν 7 4)).2 (ν (11 + r)) i
      refine lv_iload X.1 X.2.1 dX4_takeBundles_13 (lv_at hl 5 rfl) ?_
      refine lv_iload_n X.1 X.2.1 dX4_takeBundles_15 rfl (lv_at hl 3 rfl) ?_
      refine tn_ge (tgt := 50) X dX4_takeBundles_16 (by decide) (by omega) (by omega) (fun h16 => ?_) (fun h16 => ?_)
      · exfalso; omega
      · refine tn_inc (k := 4) (w := 1) X dX4_takeBundles_19 hl rfl (by decide) (by decide) rfl (fun ls hl => ?_)
        replace hl : lv_has ls 6 [(4, _), (0, _), (1, _), (2, _), (3, _), (5, _)] := hl
        refine lv_iload X.1 X.2.1 dX4_takeBundles_22 (lv_at hl 0 rfl) ?_
        refine lv_aload_n X.1 X.2.1 dX4_takeBundles_24 rfl (lv_at hl 2 rfl) ?_
        refine m_getN (ci := 0) (C := RX0) (T := TX0) (N := 6) X hM inA0 (by omega) (dE_cou hq G _) rfl 1 (by decide) kl_X4_64 rfl rfl dX4_takeBundles_25 ?_
        refine tn_ne (tgt := 44) X dX4_takeBundles_28 (by decide) (by omega) (by rw [eqq]; omega) (fun h28 => ?_) (fun h28 => ?_)
        · refine tn_inc (k := 5) (w := 1) X dX4_takeBundles_44 hl rfl (by decide) (by decide) rfl (fun ls hl => ?_)
          replace hl : lv_has ls 6 [(5, _), (4, _), (0, _), (1, _), (2, _), (3, _)] := hl
          refine lv_goto (tgt := 13) X.1 X.2.1 dX4_takeBundles_47 (by decide) ?_
          have e : tbS (ν (22 + q) 1) (rkS (ν 9) (ν (22 + q) 2) (ν (11 + r)) (ν 7 4)).2 (i + 1) (0, ν (11 + r)) = _ := tbS_n (by rw [eqq] at h28; exact h28)
          exact ih (i + 1) μ (by omega) hof hg (by rw [e]; exact hro) ls H locs hM hS (by rw [e]; exact (lv_sub hl [2, 3, 4, 5, 1, 0] rfl))
        · have hx0 : μ 20 i = (rkS (ν 9) (ν (22 + q) 2) (ν (11 + r)) (ν 7 4)).2 i := hg i (by omega)
          have hx1 : μ 20 i < 60 := by rw [hx0]; have := rkS_lt (ν 9) (ν (22 + q) 2) (ν (11 + r)) (ν 7 4) i (by omega); omega
          refine lv_aload_n X.1 X.2.1 dX4_takeBundles_31 rfl (lv_at hl 3 rfl) ?_
          refine lv_aload_n X.1 X.2.1 dX4_takeBundles_32 rfl (lv_at hl 1 rfl) ?_
          refine m_get (ci := 4) (C := RX4) (T := TX4) (N := 5) X hM inA4 (by decide) (dE_tray G _) rfl 3 (by decide) kl_X4_23 rfl rfl dX4_takeBundles_33 ?_
          refine lv_iload X.1 X.2.1 dX4_takeBundles_36 (lv_at hl 5 rfl) ?_
          refine m_iald X hM (by decide) (dE_tK G _) (by omega) (by decide) dX4_takeBundles_38 ?_
          refine tn_ic (v := 0) X dX4_takeBundles_39 (by decide) ?_
          refine m_iast X hM hS (by omega) (fun _ => (dE_row hr G _)) hx1 (by decide) dX4_takeBundles_40 (fun H locs hM hS => ?_)
          refine tn_ic (v := 0) X dX4_takeBundles_41 (by decide) ?_
          refine lv_istore X.1 X.2.1 dX4_takeBundles_42 hl (by decide) rfl (fun ls hl => ?_)
          replace hl : lv_has ls 6 [(4, _), (0, _), (1, _), (2, _), (3, _), (5, _)] := hl
          refine tn_inc (k := 5) (w := 1) X dX4_takeBundles_44 hl rfl (by decide) (by decide) rfl (fun ls hl => ?_)
          replace hl : lv_has ls 6 [(5, _), (4, _), (0, _), (1, _), (2, _), (3, _)] := hl
          refine lv_goto (tgt := 13) X.1 X.2.1 dX4_takeBundles_47 (by decide) ?_
          have e : tbS (ν (22 + q) 1) (rkS (ν 9) (ν (22 + q) 2) (ν (11 + r)) (ν 7 4)).2 (i + 1) (0, ν (11 + r)) = _ := tbS_y (by rw [eqq] at h28; exact h28)
          exact ih (i + 1) _ (by omega) hof.up2 (fun j hj => by rw [up2_ne (by omega)]; exact hg j hj) (by rw [up2_row, e, hro, hx0]) ls H locs hM hS (by rw [e]; exact (lv_sub hl [2, 3, 4, 5, 1, 0] rfl))
  exact Lp (rkS (ν 9) (ν (22 + q) 2) (ν (11 + r)) (ν 7 4)).1 0 _ (by omega) hof3.two hg3 (hof3 (11 + r) (by omega)) ls _ _ hM hS (lv_sub hl [3, 4, 5, 2, 1, 0] rfl)

set_option maxHeartbeats 4000000 in
set_option maxRecDepth 100000 in
theorem c_X4_apply {l : Launch} {G : dG} {ν : Mm} {q r : Nat} (hq : q < 8) (hr : r < 9) (hcs : ν (22 + q) 2 < 2 ^ 31) (hn : ν 7 4 ≤ 60) (hct : ∀ i, i < ν 7 4 → ν 9 i < 32) (hv : ν (22 + q) 1 ≤ 100000) (hv0 : ν (22 + q) 0 = 0 → ν (22 + q) 1 ≤ 100) (hk : ν (22 + q) 0 < 2 ^ 31) (hf : ∀ i, i < ν 7 4 → ν (11 + r) i ≤ 10000) : cV l yX4_apply cX4_apply 3 3 G [.ref (ra G 7), .ref (ra G (22 + q)), .int (nI r)] ν (fun ν' => off2 20 (11 + r) ν ν' ∧ ν' (11 + r) = apF (ν 7 4) (ν 9) (ν (22 + q) 0) (ν (22 + q) 2) (ν (22 + q) 1) (ν (11 + r))) := by
  refine cV_of (by decide +kernel) (Nat.le_of_ble_eq_true rfl) ?_
  intro p e s m args below meth c ls X hM hret hlk hl
  have hS : dS G s.heap s.heap [] := va_S.rf
  refine lv_aload_n X.1 X.2.1 dX4_apply_0 rfl (lv_at hl 1 rfl) ?_
  refine m_getN (ci := 0) (C := RX0) (T := TX0) (N := 6) X hM inA0 (by omega) (dE_cou hq G _) rfl 0 (by decide) kl_X4_45 rfl rfl dX4_apply_1 ?_
  rcases (show ν (22 + q) 0 = 0 ∨ ν (22 + q) 0 = 1 ∨ ν (22 + q) 0 = 2 ∨ 2 < ν (22 + q) 0 by omega) with h4 | h4 | h4 | h4
  · refine tn_as h4 ?_
    refine tn_swI (a := 0) (tgt := 32) X dX4_apply_4 (by decide) (by decide) (by decide) rfl (by decide) ?_
    refine lv_aload_n X.1 X.2.1 dX4_apply_32 rfl (lv_at hl 0 rfl) ?_
    refine lv_aload_n X.1 X.2.1 dX4_apply_33 rfl (lv_at hl 1 rfl) ?_
    refine lv_aload_n X.1 X.2.1 dX4_apply_34 rfl (lv_at hl 0 rfl) ?_
    refine m_get (ci := 4) (C := RX4) (T := TX4) (N := 5) X hM inA4 (by decide) (dE_tray G _) rfl 2 (by decide) kl_X4_20 rfl rfl dX4_apply_35 ?_
    refine lv_iload_n X.1 X.2.1 dX4_apply_38 rfl (lv_at hl 2 rfl) ?_
    refine m_aald 3 rfl X hM (by decide) (dE_tR G _) rfl hr (by decide) dX4_apply_39 ?_
    refine kVV (As := [_, _]) X hM hS hl.1 (c_X4_takePercent hq hr hcs hn hct (hv0 h4) hf) (by decide) (dE_tray G _) rfl rfl kl_X4_50 mf_X4_takePercent ⟨Nat.le_of_ble_eq_true rfl, Nat.le_of_ble_eq_true rfl⟩ ⟨Nat.zero_le _, Nat.zero_le _⟩ rfl (Nat.le_of_ble_eq_true rfl) dX4_apply_40 (fun ν40 H locs hp40 hM hS => ?_)
    refine lv_goto (tgt := 74) X.1 X.2.1 dX4_apply_43 (by decide) ?_
    exact rV ⟨hp40.1.two', by rw [hp40.2]; unfold apF; rw [if_pos h4]⟩ X hM hS hret hlk dX4_apply_74
  · refine tn_as h4 ?_
    refine tn_swI (a := 1) (tgt := 46) X dX4_apply_4 (by decide) (by decide) (by decide) rfl (by decide) ?_
    refine lv_aload_n X.1 X.2.1 dX4_apply_46 rfl (lv_at hl 0 rfl) ?_
    refine lv_aload_n X.1 X.2.1 dX4_apply_47 rfl (lv_at hl 1 rfl) ?_
    refine lv_aload_n X.1 X.2.1 dX4_apply_48 rfl (lv_at hl 0 rfl) ?_
    refine m_get (ci := 4) (C := RX4) (T := TX4) (N := 5) X hM inA4 (by decide) (dE_tray G _) rfl 2 (by decide) kl_X4_20 rfl rfl dX4_apply_49 ?_
    refine lv_iload_n X.1 X.2.1 dX4_apply_52 rfl (lv_at hl 2 rfl) ?_
    refine m_aald 3 rfl X hM (by decide) (dE_tR G _) rfl hr (by decide) dX4_apply_53 ?_
    refine kVV (As := [_, _]) X hM hS hl.1 (c_X4_takeAmount hq hr hcs hn hct hv hf) (by decide) (dE_tray G _) rfl rfl kl_X4_54 mf_X4_takeAmount ⟨Nat.le_of_ble_eq_true rfl, Nat.le_of_ble_eq_true rfl⟩ ⟨Nat.zero_le _, Nat.zero_le _⟩ rfl (Nat.le_of_ble_eq_true rfl) dX4_apply_54 (fun ν54 H locs hp54 hM hS => ?_)
    refine lv_goto (tgt := 74) X.1 X.2.1 dX4_apply_57 (by decide) ?_
    exact rV ⟨hp54.1.two', by rw [hp54.2]; unfold apF; rw [if_neg (by omega), if_pos h4]⟩ X hM hS hret hlk dX4_apply_74
  · refine tn_as h4 ?_
    refine tn_swI (a := 2) (tgt := 60) X dX4_apply_4 (by decide) (by decide) (by decide) rfl (by decide) ?_
    refine lv_aload_n X.1 X.2.1 dX4_apply_60 rfl (lv_at hl 0 rfl) ?_
    refine lv_aload_n X.1 X.2.1 dX4_apply_61 rfl (lv_at hl 1 rfl) ?_
    refine lv_aload_n X.1 X.2.1 dX4_apply_62 rfl (lv_at hl 0 rfl) ?_
    refine m_get (ci := 4) (C := RX4) (T := TX4) (N := 5) X hM inA4 (by decide) (dE_tray G _) rfl 2 (by decide) kl_X4_20 rfl rfl dX4_apply_63 ?_
    refine lv_iload_n X.1 X.2.1 dX4_apply_66 rfl (lv_at hl 2 rfl) ?_
    refine m_aald 3 rfl X hM (by decide) (dE_tR G _) rfl hr (by decide) dX4_apply_67 ?_
    refine kVV (As := [_, _]) X hM hS hl.1 (c_X4_takeBundles hq hr hcs hn hct hv hf) (by decide) (dE_tray G _) rfl rfl kl_X4_57 mf_X4_takeBundles ⟨Nat.le_of_ble_eq_true rfl, Nat.le_of_ble_eq_true rfl⟩ ⟨Nat.zero_le _, Nat.zero_le _⟩ rfl (Nat.le_of_ble_eq_true rfl) dX4_apply_68 (fun ν68 H locs hp68 hM hS => ?_)
    refine lv_goto (tgt := 74) X.1 X.2.1 dX4_apply_71 (by decide) ?_
    exact rV ⟨hp68.1, by rw [hp68.2]; unfold apF; rw [if_neg (by omega), if_neg (by omega), if_pos h4]⟩ X hM hS hret hlk dX4_apply_74
  · refine tn_swO (tgt := 74) X dX4_apply_4 (by omega) (Or.inr (by omega)) (by decide) ?_
    exact rV ⟨off2_rf _ _ _, by unfold apF; rw [if_neg (by omega), if_neg (by omega), if_neg (by omega)]⟩ X hM hS hret hlk dX4_apply_74

set_option maxHeartbeats 4000000 in
set_option maxRecDepth 100000 in
theorem c_X4_copyRow {l : Launch} {G : dG} {ν : Mm} {r t : Nat} (hr : r < 9) (ht : t < 9) (hn : ν 7 4 ≤ 60) : cV l yX4_copyRow cX4_copyRow 3 1 G [.ref (ra G 7), .int (nI r), .int (nI t)] ν (fun ν' => ν' = va_up ν (11 + t) (fun a => if a < ν 7 4 then ν (11 + r) a else ν (11 + t) a)) := by
  refine cV_of (by decide +kernel) (Nat.le_of_ble_eq_true rfl) ?_
  intro p e s m args below meth c ls X hM hret hlk hl
  have hS : dS G s.heap s.heap [] := va_S.rf
  refine lv_aload_n X.1 X.2.1 dX4_copyRow_0 rfl (lv_at hl 0 rfl) ?_
  refine m_get (ci := 4) (C := RX4) (T := TX4) (N := 5) X hM inA4 (by decide) (dE_tray G _) rfl 2 (by decide) kl_X4_20 rfl rfl dX4_copyRow_1 ?_
  refine lv_iload_n X.1 X.2.1 dX4_copyRow_4 rfl (lv_at hl 1 rfl) ?_
  refine m_aald 3 rfl X hM (by decide) (dE_tR G _) rfl hr (by decide) dX4_copyRow_5 ?_
  refine tn_ic (v := 0) X dX4_copyRow_6 (by decide) ?_
  refine lv_aload_n X.1 X.2.1 dX4_copyRow_7 rfl (lv_at hl 0 rfl) ?_
  refine m_get (ci := 4) (C := RX4) (T := TX4) (N := 5) X hM inA4 (by decide) (dE_tray G _) rfl 2 (by decide) kl_X4_20 rfl rfl dX4_copyRow_8 ?_
  refine lv_iload_n X.1 X.2.1 dX4_copyRow_11 rfl (lv_at hl 2 rfl) ?_
  refine m_aald 3 rfl X hM (by decide) (dE_tR G _) rfl ht (by decide) dX4_copyRow_12 ?_
  refine tn_ic (v := 0) X dX4_copyRow_13 (by decide) ?_
  refine lv_aload_n X.1 X.2.1 dX4_copyRow_14 rfl (lv_at hl 0 rfl) ?_
  refine m_get (ci := 4) (C := RX4) (T := TX4) (N := 5) X hM inA4 (by decide) (dE_tray G _) rfl 4 (by decide) kl_X4_26 rfl rfl dX4_copyRow_15 ?_
  refine tn_copy X hM hS hl.1 kl_X4_39 (by omega) (by omega) (dE_row hr G _) (fun _ => (dE_row ht G _)) (by omega) (by decide) (Nat.le_of_ble_eq_true rfl) (Nat.le_of_ble_eq_true rfl) (Nat.le_of_ble_eq_true rfl) dX4_copyRow_18 (fun H locs hM hS => ?_)
  exact rV rfl X hM hS hret hlk dX4_copyRow_21

set_option maxHeartbeats 4000000 in
set_option maxRecDepth 100000 in
theorem c_X4_lay {l : Launch} {G : dG} {ν : Mm} {L : Nat} (hL : lotB L) (hc6 : ∀ a, a < 10 → ν (L + 3) a ≤ 6) : cV l yX4_lay cX4_lay 5 1 G [.ref (ra G 7), .ref (ra G L)] ν (fun ν' => layP ν L ν') := by
  refine cV_of (by decide +kernel) (Nat.le_of_ble_eq_true rfl) ?_
  intro p e s m args below meth c ls X hM hret hlk hl
  have hS : dS G s.heap s.heap [] := va_S.rf
  have h60 : cnt ν L 10 ≤ 60 := cnt_le hc6
  have hLo : L = 1 ∨ 31 ≤ L := by rcases hL with h | ⟨k, -, h⟩ <;> omega
  refine tn_ic (v := 0) X dX4_lay_0 (by decide) ?_
  refine lv_istore_n X.1 X.2.1 dX4_lay_1 rfl hl (by decide) rfl (fun ls hl => ?_)
  replace hl : lv_has ls 5 [(2, _), (0, _), (1, _)] := hl
  refine tn_ic (v := 0) X dX4_lay_2 (by decide) ?_
  refine lv_istore_n X.1 X.2.1 dX4_lay_3 rfl hl (by decide) rfl (fun ls hl => ?_)
  replace hl : lv_has ls 5 [(3, _), (2, _), (0, _), (1, _)] := hl
  have Lp : ∀ (k : Nat) (a : Nat) (μ : Mm), a + k = 10 → off3 ν μ → layQ ν L a (cnt ν L a) μ → ∀ (ls : Array Slot) (H : Heap) (locs : List Loc), dM G μ H → dS G s.heap H locs → lv_has ls 5 [(0, .ref (ra G 7)), (1, .ref (ra G L)), (2, .int (nI (cnt ν L a))), (3, .int (nI a))] → W p l e (rmD 1) s m args below meth c H locs 0 0 (MQ below (dQv G s.heap.size (fun ν' => layP ν L ν')) args s 0 0 (dA G s.heap.size)) (F0 m 4 ls []) := by
    intro k
    induction k with
    | zero =>
      intro a μ ha hof hq1 ls H locs hM hS hl
      refine lv_iload_n X.1 X.2.1 dX4_lay_4 rfl (lv_at hl 3 rfl) ?_
      refine tn_bi (v := 10) X dX4_lay_5 (by decide) ?_
      refine tn_ge (tgt := 78) X dX4_lay_7 (by decide) (by omega) (by omega) (fun h7 => ?_) (fun h7 => ?_)
      · obtain rfl : a = 10 := by omega
        refine lv_aload_n X.1 X.2.1 dX4_lay_78 rfl (lv_at hl 0 rfl) ?_
        refine lv_iload_n X.1 X.2.1 dX4_lay_79 rfl (lv_at hl 2 rfl) ?_
        refine m_put (ci := 4) (C := RX4) (T := TX4) (N := 5) X hM hS inA4 tyX4_ok nmX4 (by decide) (dE_tray G _) rfl 4 (by decide) kl_X4_26 rfl rfl (by decide +kernel) (Nat.le_of_ble_eq_true rfl) (dE_tray G _) dX4_lay_80 (fun H locs hM hS => ?_)
        exact rV (layP_of hof hq1) X hM hS hret hlk dX4_lay_83
      · exfalso; omega
    | succ k ih =>
      intro a μ ha hof hq1 ls H locs hM hS hl
      have eL1 : μ (L + 1) = ν (L + 1) := hof (L + 1) (by omega) (by omega) (by omega)
      have eL2 : μ (L + 2) = ν (L + 2) := hof (L + 2) (by omega) (by omega) (by omega)
      have eL3 : μ (L + 3) = ν (L + 3) := hof (L + 3) (by omega) (by omega) (by omega)
      refine lv_iload_n X.1 X.2.1 dX4_lay_4 rfl (lv_at hl 3 rfl) ?_
      refine tn_bi (v := 10) X dX4_lay_5 (by decide) ?_
      refine tn_ge (tgt := 78) X dX4_lay_7 (by decide) (by omega) (by omega) (fun h7 => ?_) (fun h7 => ?_)
      · exfalso; omega
      · refine tn_ic (v := 0) X dX4_lay_10 (by decide) ?_
        refine lv_istore X.1 X.2.1 dX4_lay_11 hl (by decide) rfl (fun ls hl => ?_)
        replace hl : lv_has ls 5 [(4, _), (0, _), (1, _), (2, _), (3, _)] := hl
        have hc6a := hc6 a (by omega)
        have hcm : cnt ν L (a + 1) ≤ cnt ν L 10 := cnt_mono (by omega)
        have hca : cnt ν L (a + 1) = cnt ν L a + ν (L + 3) a := rfl
        have Lp2 : ∀ (k : Nat) (x : Nat) (μ : Mm), x + k = ν (L + 3) a → off3 ν μ → layQ ν L (a + 1) (cnt ν L a + x) μ → ∀ (ls : Array Slot) (H : Heap) (locs : List Loc), dM G μ H → dS G s.heap H locs → lv_has ls 5 [(0, .ref (ra G 7)), (1, .ref (ra G L)), (2, .int (nI (cnt ν L a + x))), (3, .int (nI a)), (4, .int (nI x))] → W p l e (rmD 1) s m args below meth c H locs 0 0 (MQ below (dQv G s.heap.size (fun ν' => layP ν L ν')) args s 0 0 (dA G s.heap.size)) (F0 m 13 ls []) := by
          intro k
          induction k with
          | zero =>
            intro x μ hx hof hq2 ls H locs hM hS hl
            have eL1 : μ (L + 1) = ν (L + 1) := hof (L + 1) (by omega) (by omega) (by omega)
            have eL2 : μ (L + 2) = ν (L + 2) := hof (L + 2) (by omega) (by omega) (by omega)
            have eL3 : μ (L + 3) = ν (L + 3) := hof (L + 3) (by omega) (by omega) (by omega)
            have eL3a : μ (L + 3) a = ν (L + 3) a := by rw [eL3]
            refine lv_iload X.1 X.2.1 dX4_lay_13 (lv_at hl 4 rfl) ?_
            refine lv_aload_n X.1 X.2.1 dX4_lay_15 rfl (lv_at hl 1 rfl) ?_
            refine m_getN (ci := 1) (C := RX1) (T := TX1) (N := 3) X hM inA1 (by have := lotB.lt hL; omega) (dE_lot hL G _) rfl 2 (by decide) kl_X4_30 rfl rfl dX4_lay_16 ?_
            refine lv_iload_n X.1 X.2.1 dX4_lay_19 rfl (lv_at hl 3 rfl) ?_
            refine m_iald X hM (by have := lotB.lt hL; omega) (dE_lotA hL (by decide) (by decide) G _) (by omega) (by decide) dX4_lay_20 ?_
            refine tn_ge (tgt := 72) X dX4_lay_21 (by decide) (by omega) (by omega) (fun h21 => ?_) (fun h21 => ?_)
            · refine tn_inc (k := 3) (w := 1) X dX4_lay_72 hl rfl (by decide) (by decide) rfl (fun ls hl => ?_)
              replace hl : lv_has ls 5 [(3, _), (0, _), (1, _), (2, _), (4, _)] := hl
              refine lv_goto (tgt := 4) X.1 X.2.1 dX4_lay_75 (by decide) ?_
              exact ih (a + 1) μ (by omega) hof (by rw [hca, show ν (L + 3) a = x by omega]; exact hq2) ls H locs hM hS (by rw [hca, show ν (L + 3) a = x by omega]; exact (lv_sub hl [1, 2, 3, 0] rfl))
            · exfalso; omega
          | succ k ih2 =>
            intro x μ hx hof hq2 ls H locs hM hS hl
            have eL1 : μ (L + 1) = ν (L + 1) := hof (L + 1) (by omega) (by omega) (by omega)
            have eL2 : μ (L + 2) = ν (L + 2) := hof (L + 2) (by omega) (by omega) (by omega)
            have eL3 : μ (L + 3) = ν (L + 3) := hof (L + 3) (by omega) (by omega) (by omega)
            have eL3a : μ (L + 3) a = ν (L + 3) a := by rw [eL3]
            refine lv_iload X.1 X.2.1 dX4_lay_13 (lv_at hl 4 rfl) ?_
            refine lv_aload_n X.1 X.2.1 dX4_lay_15 rfl (lv_at hl 1 rfl) ?_
            refine m_getN (ci := 1) (C := RX1) (T := TX1) (N := 3) X hM inA1 (by have := lotB.lt hL; omega) (dE_lot hL G _) rfl 2 (by decide) kl_X4_30 rfl rfl dX4_lay_16 ?_
            refine lv_iload_n X.1 X.2.1 dX4_lay_19 rfl (lv_at hl 3 rfl) ?_
            refine m_iald X hM (by have := lotB.lt hL; omega) (dE_lotA hL (by decide) (by decide) G _) (by omega) (by decide) dX4_lay_20 ?_
            refine tn_ge (tgt := 72) X dX4_lay_21 (by decide) (by omega) (by omega) (fun h21 => ?_) (fun h21 => ?_)
            · exfalso; omega
            · refine lv_iload_n X.1 X.2.1 dX4_lay_24 rfl (lv_at hl 2 rfl) ?_
              refine tn_bi (v := 60) X dX4_lay_25 (by decide) ?_
              refine tn_ge (tgt := 72) X dX4_lay_27 (by decide) (by omega) (by omega) (fun h27 => ?_) (fun h27 => ?_)
              · exfalso; omega
              · refine lv_aload_n X.1 X.2.1 dX4_lay_30 rfl (lv_at hl 0 rfl) ?_
                refine m_get (ci := 4) (C := RX4) (T := TX4) (N := 5) X hM inA4 (by decide) (dE_tray G _) rfl 0 (by decide) kl_X4_9 rfl rfl dX4_lay_31 ?_
                refine lv_iload_n X.1 X.2.1 dX4_lay_34 rfl (lv_at hl 2 rfl) ?_
                refine lv_iload_n X.1 X.2.1 dX4_lay_35 rfl (lv_at hl 3 rfl) ?_
                refine m_iast X hM hS (by decide) (fun _ => (dE_tA G _)) (by omega) (by decide) dX4_lay_36 (fun H locs hM hS => ?_)
                refine lv_aload_n X.1 X.2.1 dX4_lay_37 rfl (lv_at hl 0 rfl) ?_
                refine m_get (ci := 4) (C := RX4) (T := TX4) (N := 5) X hM inA4 (by decide) (dE_tray G _) rfl 1 (by decide) kl_X4_15 rfl rfl dX4_lay_38 ?_
                refine lv_iload_n X.1 X.2.1 dX4_lay_41 rfl (lv_at hl 2 rfl) ?_
                refine lv_aload_n X.1 X.2.1 dX4_lay_42 rfl (lv_at hl 1 rfl) ?_
                refine m_getN (ci := 1) (C := RX1) (T := TX1) (N := 3) X hM inA1 (by have := lotB.lt hL; omega) (dE_lot hL G _) rfl 1 (by decide) kl_X4_35 rfl rfl dX4_lay_43 ?_
                refine lv_iload_n X.1 X.2.1 dX4_lay_46 rfl (lv_at hl 3 rfl) ?_
                refine m_iald X hM (by have := lotB.lt hL; omega) (dE_lotA hL (by decide) (by decide) G _) (by omega) (by decide) dX4_lay_47 ?_
                refine m_iast X hM hS (by decide) (fun _ => (dE_tC G _)) (by omega) (by decide) dX4_lay_48 (fun H locs hM hS => ?_)
                refine lv_aload_n X.1 X.2.1 dX4_lay_49 rfl (lv_at hl 0 rfl) ?_
                refine m_get (ci := 4) (C := RX4) (T := TX4) (N := 5) X hM inA4 (by decide) (dE_tray G _) rfl 2 (by decide) kl_X4_20 rfl rfl dX4_lay_50 ?_
                refine tn_ic (v := 0) X dX4_lay_53 (by decide) ?_
                refine m_aald 3 rfl X hM (by decide) (dE_tR G _) rfl (by decide) (by decide) dX4_lay_54 ?_
                refine lv_iload_n X.1 X.2.1 dX4_lay_55 rfl (lv_at hl 2 rfl) ?_
                refine lv_aload_n X.1 X.2.1 dX4_lay_56 rfl (lv_at hl 1 rfl) ?_
                refine m_getN (ci := 1) (C := RX1) (T := TX1) (N := 3) X hM inA1 (by have := lotB.lt hL; omega) (dE_lot hL G _) rfl 0 (by decide) kl_X4_36 rfl rfl dX4_lay_57 ?_
                refine lv_iload_n X.1 X.2.1 dX4_lay_60 rfl (lv_at hl 3 rfl) ?_
                refine m_iald X hM (by have := lotB.lt hL; omega) (dE_lotA hL (by decide) (by decide) G _) (by omega) (by decide) dX4_lay_61 ?_
                refine m_iast X hM hS (by omega) (fun _ => (dE_row (by decide) G _)) (by omega) (by decide) dX4_lay_62 (fun H locs hM hS => ?_)
                refine tn_inc (k := 2) (w := 1) X dX4_lay_63 hl rfl (by decide) (by decide) rfl (fun ls hl => ?_)
                replace hl : lv_has ls 5 [(2, _), (0, _), (1, _), (3, _), (4, _)] := hl
                refine tn_inc (k := 4) (w := 1) X dX4_lay_66 hl rfl (by decide) (by decide) rfl (fun ls hl => ?_)
                replace hl : lv_has ls 5 [(4, _), (2, _), (0, _), (1, _), (3, _)] := hl
                refine lv_goto (tgt := 13) X.1 X.2.1 dX4_lay_69 (by decide) ?_
                exact ih2 (x + 1) _ (by omega) (off3_step hof) (layQ_step hL hof hq2 (by omega)) ls H locs hM hS (lv_sub hl [2, 3, 1, 4, 0] rfl)
        exact Lp2 (ν (L + 3) a) 0 μ (by omega) hof (layQ_next hq1) ls _ _ hM hS (lv_sub hl [1, 2, 3, 4, 0] rfl)
  exact Lp 10 0 ν (by omega) off3_rf (fun j h => absurd h (Nat.not_lt_zero j)) ls _ _ hM hS (lv_sub hl [2, 3, 1, 0] rfl)
