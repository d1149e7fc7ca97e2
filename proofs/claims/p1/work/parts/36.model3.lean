/-! ===== the model: addCoupon, with its row of six; the constructor ===== -/
/-- the model, and a row of six behind it -/
def mN (J : mG) (o : Nat → Int32) (a : Nat) (H : Heap) : Prop := ja J 9 < a ∧ ∃ r g, va_P J.1 mCl (mW J o r ++ [(a, mRow J 6 g)]) H
theorem mN_at {J : mG} {o : Nat → Int32} {r : Nat → Nat → Int32} {a : Nat} {e : va_E} {k : Nat} {q : Nat × va_E} (h : (mW J o r ++ [(a, e)])[k]? = some q) : (k < 10 ∧ q.1 = ja J k) ∨ (k = 10 ∧ q.1 = a) := by
  rcases Nat.lt_or_ge k 10 with hk | hk
  · rw [List.getElem?_append_left (show k < (mW J o r).length from hk)] at h
    exact Or.inl ⟨hk, (mW_at h).2⟩
  · rw [List.getElem?_append_right (show (mW J o r).length ≤ k from hk)] at h
    have h0 : k - (mW J o r).length = 0 := by
      have := (List.getElem?_eq_some_iff.mp h).1
      simp at this; omega
    have h1 : k = 10 := by
      have : (mW J o r).length = 10 := rfl
      omega
    rw [h0] at h
    obtain rfl := Option.some.inj h
    exact Or.inr ⟨h1, rfl⟩
theorem mN_D {J : mG} {o : Nat → Int32} {r : Nat → Nat → Int32} {a sz : Nat} {e : va_E} (ha : ja J 9 < a) (hz : sz ≤ a) : va_D (mA J sz) (mW J o r ++ [(a, e)]) := by
  refine ⟨fun i j p q hi hj e1 => ?_, fun k q hk => ?_⟩
  · have e2 : p.1 = q.1 := e1
    rcases mN_at hi with ⟨h1, h2⟩ | ⟨h1, h2⟩ <;> rcases mN_at hj with ⟨h3, h4⟩ | ⟨h3, h4⟩
    · exact ja_inj (h2.symm.trans (e2.trans h4))
    · exfalso; rw [h2, h4] at e2; unfold ja at e2 ha; omega
    · exfalso; rw [h2, h4] at e2; unfold ja at e2 ha; omega
    · omega
  · rcases mN_at hk with ⟨h1, h2⟩ | ⟨h1, h2⟩
    · exact Or.inl ⟨k, h1, h2⟩
    · exact Or.inr (by rw [h2]; exact hz)
theorem mN.M {J : mG} {o : Nat → Int32} {a : Nat} {H : Heap} (h : mN J o a H) : mM J o H := by
  obtain ⟨-, r, g, hP⟩ := h
  exact ⟨r, fun k q hk => hP k q (by rw [List.getElem?_append_left (List.getElem?_eq_some_iff.mp hk).1]; exact hk)⟩
section RQ2
variable {p : Program} {l : Launch} {e : Env} {R : Room} {s : State} {m : MethodId} {args : Array Value} {below : List Frame} {meth : Method} {c : Code} {H : Heap} {locs : List Loc} {cells slots : Nat} {Q : State → Prop}
variable {cc : ByteArray} {pc n : Nat} {ls : Array Slot} {rest : List Value} {J : mG} {o : Nat → Int32} {H0 : Heap}
theorem q_new6 (X : mC p s m args c cc n RX6 J) (hM : mM J o H) (hS : mS J H0 H locs) (hcells : cells + 1 ≤ R.cells) (hslots : slots + 6 ≤ R.slots) (hdg : decode cc pc = .ok (.newarray .int, 2))
    (kk : ∀ (a : Nat) (H1 : Heap), H0.size ≤ a → mN J o a H1 → mS J H0 H1 locs → W p l e R s m args below meth c H1 locs (cells + 1) (slots + 6) Q (F0 m (pc + 2) ls (.ref a :: rest))) : W p l e R s m args below meth c H locs cells slots Q (F0 m pc ls (.int 6 :: rest)) := by
  obtain ⟨hx, hb, -, hown, hts, hK⟩ := X
  refine va_newaK (n := 6) hx hb (atype := .int) (hts _ ka_int) rfl hdg rfl (by decide) (by decide) (by decide) hcells hslots rfl fun H1 cA e1 z1 o1 hAr hNm => ?_
  have hcA : cA = J.2.1 := by
    have h2 : s.vm.findClass ("[" ++ FieldType.int.toString) = some J.2.1 := (hK.2 0 _ rfl).2
    exact Option.some.inj (hNm.symm.trans h2)
  subst hcA
  have o2 : ∀ q : Nat, q < H.size → H1[q]? = H[q]? := fun q hq => o1 q hq
  refine kk H.size H1 hS.1 ⟨hM.lt, ?_⟩ ⟨Nat.le_trans hS.1 (by omega), fun x h1 h2 => (o2 x (Nat.lt_of_lt_of_le h1 hS.1)).trans (hS.2.1 x h1 h2), hS.2.2⟩
  obtain ⟨r, hP⟩ := hM.same o2
  refine ⟨r, fun _ => 0, fun k q hk => ?_⟩
  rcases Nat.lt_or_ge k 10 with h | h
  · rw [List.getElem?_append_left (show k < (mW J o r).length from h)] at hk
    exact hP k q hk
  · rw [List.getElem?_append_right (show (mW J o r).length ≤ k from h)] at hk
    have h0 : k - (mW J o r).length = 0 := by
      have := (List.getElem?_eq_some_iff.mp hk).1
      simp at this; omega
    rw [h0] at hk
    obtain rfl := Option.some.inj hk
    exact e1
theorem q_ast6 {i w : Int32} {a : Nat} (X : mC p s m args c cc n RX6 J) (hz : H0.size ≤ a) (hN : mN J o a H) (hS : mS J H0 H locs) (hin : vp_in i 6) (hdg : decode cc pc = .ok (.iastore, 1))
    (kk : ∀ (H1 : Heap) (locs1 : List Loc), mN J o a H1 → mS J H0 H1 locs1 → W p l e R s m args below meth c H1 locs1 cells slots Q (F0 m (pc + 1) ls rest)) : W p l e R s m args below meth c H locs cells slots Q (F0 m pc ls (.int w :: .int i :: .ref a :: rest)) := by
  obtain ⟨ha, r, g, hP⟩ := hN
  exact va_iast (D := J.1) (n := 6) (f := g) X.1 X.2.1 X.2.2.2.2.2 hP (mN_D ha hz) hS 10 0 rfl rfl hin hdg (fun H1 locs1 hP1 _ hS1 => kk H1 locs1 ⟨ha, r, upd g i.toNatClampNeg w, hP1⟩ hS1)
theorem q_copy6 {index a : Nat} (X : mC p s m args c cc n RX6 J) (hz : H0.size ≤ a) (hN : mN J o a H) (hS : mS J H0 H locs) (hl : ls.size = n) (hlink : Cond.methodLink RX6 index arraycopyName ∈ allW) (hlo : (rest.map fun v => v.category).sum ≤ 8) (hf : 1 ≤ R.frames) (hlo2 : 40 ≤ R.locals) (hdg : decode cc pc = .ok (.invokestatic index, 3))
    (kk : ∀ (H1 : Heap) (locs1 : List Loc), mM J o H1 → mS J H0 H1 locs1 → W p l e R s m args below meth c H1 locs1 cells slots Q (F0 m (pc + 3) ls rest)) : W p l e R s m args below meth c H locs cells slots Q (F0 m pc ls (.int 6 :: .int 0 :: .ref (ja J 4) :: .int 0 :: .ref a :: rest)) := by
  have hw := X.2.2.2.2.1
  obtain ⟨ha, r, g, hP⟩ := hN
  refine va_copyi (D := J.1) (c0 := J.2.1) (c1 := J.2.1) (n0 := 6) (n1 := 48) (f := g) (g := r 4) (ty := .int) X.1 X.2.1 (by rw [hl]; exact X.2.2.1) X.2.2.2.1 (hw _ hlink) (hw _ mw_copy.1) (hw _ mw_copy.2.1) (hw _ mw_copy.2.2) X.2.2.2.2.2 hP (mN_D ha hz) hS 10 4 0 0 rfl rfl rfl rfl rfl (by decide) (by decide) (by decide) (by decide) (by decide) (fun _ _ => rfl) hf ?_ hdg (fun H1 locs1 hP1 _ hS1 => kk H1 locs1 ⟨va_up r 4 (va_cpy g (r 4) 0 0 6), fun k q hk => ?_⟩ hS1)
  · have : nativeFrameWords "java/lang/System" "arraycopy" 5 + 11 ≤ 32 := by decide +kernel
    omega
  · refine hP1 k q ?_
    have hk10 : k < 10 := (List.getElem?_eq_some_iff.mp hk).1
    rcases (show k = 0 ∨ k = 1 ∨ k = 2 ∨ k = 3 ∨ k = 4 ∨ k = 5 ∨ k = 6 ∨ k = 7 ∨ k = 8 ∨ k = 9 by omega) with rfl | rfl | rfl | rfl | rfl | rfl | rfl | rfl | rfl | rfl <;> exact hk
end RQ2
set_option maxHeartbeats 4000000 in
set_option maxRecDepth 100000 in
theorem c_X6_addCoupon {l : Launch} {J : mG} {t a b c1 c2 c3 : Int32} : mMet l yX6_addCoupon cX6_addCoupon 7 (some .int) 2 1 6 J [.ref (ja J 0), .int a, .int b, .int c1, .int c2, .int c3] (oF t) (fun sz => mQi J sz (mSpec (kAC a b c1 c2 c3) 0)) := by
  refine mMet_of (by decide +kernel) (Nat.le_of_ble_eq_true rfl) ?_
  intro p e s m args below meth c ls X hM hret hlk hl
  have hS : mS J s.heap s.heap [] := va_S.rf
  refine lv_aload_n X.1 X.2.1 dX6_addCoupon_0 rfl (lv_at hl 0 rfl) ?_
  refine lv_iconst (v := 0) X.1 X.2.1 dX6_addCoupon_1 (by decide) ?_
  refine q_put X hM hS 0 (by decide) kl_X6_42 rfl rfl (by decide +kernel) rfl dX6_addCoupon_2 (fun H locs hM hS => ?_)
  rw [oF_0] at hM
  refine lv_iload_n X.1 X.2.1 dX6_addCoupon_5 rfl (lv_at hl 1 rfl) ?_
  refine lv_iload_n X.1 X.2.1 dX6_addCoupon_6 rfl (lv_at hl 2 rfl) ?_
  refine kMS (As := [_, _]) X hM hS hl.1 c_X6_isValue kl_X6_73 mf_X6_isValue ⟨Nat.le_of_ble_eq_true rfl, Nat.le_of_ble_eq_true rfl⟩ ⟨Nat.zero_le _, Nat.zero_le _⟩ rfl (Nat.le_of_ble_eq_true rfl) dX6_addCoupon_7 (fun r7 o7 H locs hp7 hM hS => ?_)
  obtain ⟨e7, g7⟩ := hp7
  replace g7 := g7.symm
  subst g7
  rcases bI_cases e7 with ⟨hb7, rfl⟩ | ⟨hb7, rfl⟩
  · refine lv_if_eq (tgt := 45) X.1 X.2.1 dX6_addCoupon_10 (by decide) (fun h10 => absurd h10 (by decide)) (fun h10 => ?_)
    refine lv_iload_n X.1 X.2.1 dX6_addCoupon_13 rfl (lv_at hl 3 rfl) ?_
    refine lv_iconst (v := 1) X.1 X.2.1 dX6_addCoupon_14 (by decide) ?_
    refine lv_sipush (v := 255) X.1 X.2.1 dX6_addCoupon_15 (by decide) ?_
    refine kMS (As := [_, _, _]) X hM hS hl.1 c_X6_isIn kl_X6_48 mf_X6_isIn ⟨Nat.le_of_ble_eq_true rfl, Nat.le_of_ble_eq_true rfl⟩ ⟨Nat.zero_le _, Nat.zero_le _⟩ rfl (Nat.le_of_ble_eq_true rfl) dX6_addCoupon_18 (fun r18 o18 H locs hp18 hM hS => ?_)
    obtain ⟨e18, g18⟩ := hp18
    replace g18 := g18.symm
    subst g18
    rcases bI_cases e18 with ⟨hb18, rfl⟩ | ⟨hb18, rfl⟩
    · refine lv_if_eq (tgt := 45) X.1 X.2.1 dX6_addCoupon_21 (by decide) (fun h21 => absurd h21 (by decide)) (fun h21 => ?_)
      refine lv_iload X.1 X.2.1 dX6_addCoupon_24 (lv_at hl 4 rfl) ?_
      refine lv_iconst (v := 0) X.1 X.2.1 dX6_addCoupon_26 (by decide) ?_
      refine lv_ldc (v := 1000000) X.1 X.2.1 X.2.2.2.1 (X.2.2.2.2.1 _ kl_X6_19) dX6_addCoupon_27 ?_
      refine kMS (As := [_, _, _]) X hM hS hl.1 c_X6_isIn kl_X6_48 mf_X6_isIn ⟨Nat.le_of_ble_eq_true rfl, Nat.le_of_ble_eq_true rfl⟩ ⟨Nat.zero_le _, Nat.zero_le _⟩ rfl (Nat.le_of_ble_eq_true rfl) dX6_addCoupon_29 (fun r29 o29 H locs hp29 hM hS => ?_)
      obtain ⟨e29, g29⟩ := hp29
      replace g29 := g29.symm
      subst g29
      rcases bI_cases e29 with ⟨hb29, rfl⟩ | ⟨hb29, rfl⟩
      · refine lv_if_eq (tgt := 45) X.1 X.2.1 dX6_addCoupon_32 (by decide) (fun h32 => absurd h32 (by decide)) (fun h32 => ?_)
        refine lv_iload X.1 X.2.1 dX6_addCoupon_35 (lv_at hl 5 rfl) ?_
        refine lv_iconst (v := 0) X.1 X.2.1 dX6_addCoupon_37 (by decide) ?_
        refine lv_iconst (v := 3) X.1 X.2.1 dX6_addCoupon_38 (by decide) ?_
        refine kMS (As := [_, _, _]) X hM hS hl.1 c_X6_isIn kl_X6_48 mf_X6_isIn ⟨Nat.le_of_ble_eq_true rfl, Nat.le_of_ble_eq_true rfl⟩ ⟨Nat.zero_le _, Nat.zero_le _⟩ rfl (Nat.le_of_ble_eq_true rfl) dX6_addCoupon_39 (fun r39 o39 H locs hp39 hM hS => ?_)
        obtain ⟨e39, g39⟩ := hp39
        replace g39 := g39.symm
        subst g39
        rcases bI_cases e39 with ⟨hb39, rfl⟩ | ⟨hb39, rfl⟩
        · refine lv_if_ne (tgt := 51) X.1 X.2.1 dX6_addCoupon_42 (by decide) (fun h42 => ?_) (fun h42 => absurd h42 (by decide))
          refine lv_aload_n X.1 X.2.1 dX6_addCoupon_51 rfl (lv_at hl 0 rfl) ?_
          refine q_get (v := .int 0) X hM 7 (by decide) kl_X6_52 rfl rfl dX6_addCoupon_52 ?_
          refine lv_bipush (v := 8) X.1 X.2.1 dX6_addCoupon_55 (by decide) ?_
          refine lv_icmp_ne (tgt := 66) X.1 X.2.1 dX6_addCoupon_57 (by decide) (fun h57 => ?_) (fun h57 => absurd h57 (by decide))
          refine lv_bipush (v := 6) X.1 X.2.1 dX6_addCoupon_66 (by decide) ?_
          refine q_new6 X hM hS (Nat.le_of_ble_eq_true rfl) (Nat.le_of_ble_eq_true rfl) dX6_addCoupon_68 (fun a6 H ha6 hN hS => ?_)
          refine lv_dup X.1 X.2.1 dX6_addCoupon_70 rfl ?_
          refine lv_iconst (v := 0) X.1 X.2.1 dX6_addCoupon_71 (by decide) ?_
          refine lv_iload_n X.1 X.2.1 dX6_addCoupon_72 rfl (lv_at hl 1 rfl) ?_
          refine q_ast6 X ha6 hN hS (vp_in_nI (n := 0) (by decide) (by decide)) dX6_addCoupon_73 (fun H locs hN hS => ?_)
          refine lv_dup X.1 X.2.1 dX6_addCoupon_74 rfl ?_
          refine lv_iconst (v := 1) X.1 X.2.1 dX6_addCoupon_75 (by decide) ?_
          refine lv_iload_n X.1 X.2.1 dX6_addCoupon_76 rfl (lv_at hl 2 rfl) ?_
          refine q_ast6 X ha6 hN hS (vp_in_nI (n := 1) (by decide) (by decide)) dX6_addCoupon_77 (fun H locs hN hS => ?_)
          refine lv_dup X.1 X.2.1 dX6_addCoupon_78 rfl ?_
          refine lv_iconst (v := 2) X.1 X.2.1 dX6_addCoupon_79 (by decide) ?_
          refine lv_iload_n X.1 X.2.1 dX6_addCoupon_80 rfl (lv_at hl 3 rfl) ?_
          refine q_ast6 X ha6 hN hS (vp_in_nI (n := 2) (by decide) (by decide)) dX6_addCoupon_81 (fun H locs hN hS => ?_)
          refine lv_dup X.1 X.2.1 dX6_addCoupon_82 rfl ?_
          refine lv_iconst (v := 3) X.1 X.2.1 dX6_addCoupon_83 (by decide) ?_
          refine lv_iload X.1 X.2.1 dX6_addCoupon_84 (lv_at hl 4 rfl) ?_
          refine q_ast6 X ha6 hN hS (vp_in_nI (n := 3) (by decide) (by decide)) dX6_addCoupon_86 (fun H locs hN hS => ?_)
          refine lv_dup X.1 X.2.1 dX6_addCoupon_87 rfl ?_
          refine lv_iconst (v := 4) X.1 X.2.1 dX6_addCoupon_88 (by decide) ?_
          refine lv_iload X.1 X.2.1 dX6_addCoupon_89 (lv_at hl 5 rfl) ?_
          refine q_ast6 X ha6 hN hS (vp_in_nI (n := 4) (by decide) (by decide)) dX6_addCoupon_91 (fun H locs hN hS => ?_)
          refine lv_dup X.1 X.2.1 dX6_addCoupon_92 rfl ?_
          refine lv_iconst (v := 5) X.1 X.2.1 dX6_addCoupon_93 (by decide) ?_
          refine lv_bipush (v := 9) X.1 X.2.1 dX6_addCoupon_94 (by decide) ?_
          refine q_ast6 X ha6 hN hS (vp_in_nI (n := 5) (by decide) (by decide)) dX6_addCoupon_96 (fun H locs hN hS => ?_)
          refine lv_astore X.1 X.2.1 dX6_addCoupon_97 hl (by decide) rfl (fun ls hl => ?_)
          replace hl : lv_has ls 7 [(6, _), (0, _), (1, _), (2, _), (3, _), (4, _), (5, _)] := hl
          refine lv_aload X.1 X.2.1 dX6_addCoupon_99 (lv_at hl 0 rfl) ?_
          refine lv_iconst (v := 0) X.1 X.2.1 dX6_addCoupon_101 (by decide) ?_
          refine lv_aload_n X.1 X.2.1 dX6_addCoupon_102 rfl (lv_at hl 1 rfl) ?_
          have hM := hN.M
          refine q_get (v := .ref (ja J 4)) X hM 8 (by decide) kl_X6_24 rfl rfl dX6_addCoupon_103 ?_
          refine lv_bipush (v := 6) X.1 X.2.1 dX6_addCoupon_106 (by decide) ?_
          refine lv_aload_n X.1 X.2.1 dX6_addCoupon_108 rfl (lv_at hl 1 rfl) ?_
          have hM := hN.M
          refine q_get (v := .int 0) X hM 7 (by decide) kl_X6_52 rfl rfl dX6_addCoupon_109 ?_
          refine lv_imul X.1 X.2.1 dX6_addCoupon_112 ?_
          refine r_as (b := 0) (by decide) ?_
          refine lv_bipush (v := 6) X.1 X.2.1 dX6_addCoupon_113 (by decide) ?_
          refine q_copy6 X ha6 hN hS hl.1 kl_X6_77 (Nat.le_of_ble_eq_true rfl) (Nat.le_of_ble_eq_true rfl) (Nat.le_of_ble_eq_true rfl) dX6_addCoupon_115 (fun H locs hM hS => ?_)
          refine lv_aload_n X.1 X.2.1 dX6_addCoupon_118 rfl (lv_at hl 1 rfl) ?_
          refine lv_dup X.1 X.2.1 dX6_addCoupon_119 rfl ?_
          refine q_get (v := .int 0) X hM 7 (by decide) kl_X6_52 rfl rfl dX6_addCoupon_120 ?_
          refine lv_iconst (v := 1) X.1 X.2.1 dX6_addCoupon_123 (by decide) ?_
          refine lv_iadd X.1 X.2.1 dX6_addCoupon_124 ?_
          refine r_as (b := 1) (by decide) ?_
          refine q_put X hM hS 7 (by decide) kl_X6_52 rfl rfl (by decide +kernel) rfl dX6_addCoupon_125 (fun H locs hM hS => ?_)
          refine lv_aload_n X.1 X.2.1 dX6_addCoupon_128 rfl (lv_at hl 1 rfl) ?_
          refine q_get (v := .int 1) X hM 7 (by decide) kl_X6_52 rfl rfl dX6_addCoupon_129 ?_
          refine lv_iconst (v := 1) X.1 X.2.1 dX6_addCoupon_132 (by decide) ?_
          refine lv_isub X.1 X.2.1 dX6_addCoupon_133 ?_
          refine r_as (b := 0) (by decide) ?_
          exact qI (mSpec_0 (show kAC a b c1 c2 c3 = (0 : Int32) from by simp [kAC, bI, hb7, hb18, hb29, hb39]) rfl rfl) X hM hS hret hlk dX6_addCoupon_134
        · refine lv_if_ne (tgt := 51) X.1 X.2.1 dX6_addCoupon_42 (by decide) (fun h42 => absurd (by decide) h42) (fun h42 => ?_)
          refine lv_aload_n X.1 X.2.1 dX6_addCoupon_45 rfl (lv_at hl 0 rfl) ?_
          refine lv_iconst (v := 1) X.1 X.2.1 dX6_addCoupon_46 (by decide) ?_
          refine kMI (As := [_]) X hM hS hl.1 c_X6_fail rfl kl_X6_58 mf_X6_fail ⟨Nat.le_of_ble_eq_true rfl, Nat.le_of_ble_eq_true rfl⟩ ⟨Nat.zero_le _, Nat.zero_le _⟩ rfl (Nat.le_of_ble_eq_true rfl) dX6_addCoupon_47 (fun r47 o47 H locs hp47 hM hS => ?_)
          obtain ⟨rfl, rfl⟩ := hp47
          refine W.widen (k := 1) (n := 6) (Nat.le_of_ble_eq_true rfl) (Nat.le_of_ble_eq_true rfl) ?_
          exact qI (mSpec_n (show kAC a b c1 c2 c3 = (1 : Int32) from by simp [kAC, bI, hb7, hb18, hb29, hb39]) (by decide) rfl) X hM hS hret hlk dX6_addCoupon_50
      · refine lv_if_eq (tgt := 45) X.1 X.2.1 dX6_addCoupon_32 (by decide) (fun h32 => ?_) (fun h32 => absurd (by decide) h32)
        refine lv_aload_n X.1 X.2.1 dX6_addCoupon_45 rfl (lv_at hl 0 rfl) ?_
        refine lv_iconst (v := 1) X.1 X.2.1 dX6_addCoupon_46 (by decide) ?_
        refine kMI (As := [_]) X hM hS hl.1 c_X6_fail rfl kl_X6_58 mf_X6_fail ⟨Nat.le_of_ble_eq_true rfl, Nat.le_of_ble_eq_true rfl⟩ ⟨Nat.zero_le _, Nat.zero_le _⟩ rfl (Nat.le_of_ble_eq_true rfl) dX6_addCoupon_47 (fun r47 o47 H locs hp47 hM hS => ?_)
        obtain ⟨rfl, rfl⟩ := hp47
        refine W.widen (k := 1) (n := 6) (Nat.le_of_ble_eq_true rfl) (Nat.le_of_ble_eq_true rfl) ?_
        exact qI (mSpec_n (show kAC a b c1 c2 c3 = (1 : Int32) from by simp [kAC, bI, hb7, hb18, hb29]) (by decide) rfl) X hM hS hret hlk dX6_addCoupon_50
    · refine lv_if_eq (tgt := 45) X.1 X.2.1 dX6_addCoupon_21 (by decide) (fun h21 => ?_) (fun h21 => absurd (by decide) h21)
      refine lv_aload_n X.1 X.2.1 dX6_addCoupon_45 rfl (lv_at hl 0 rfl) ?_
      refine lv_iconst (v := 1) X.1 X.2.1 dX6_addCoupon_46 (by decide) ?_
      refine kMI (As := [_]) X hM hS hl.1 c_X6_fail rfl kl_X6_58 mf_X6_fail ⟨Nat.le_of_ble_eq_true rfl, Nat.le_of_ble_eq_true rfl⟩ ⟨Nat.zero_le _, Nat.zero_le _⟩ rfl (Nat.le_of_ble_eq_true rfl) dX6_addCoupon_47 (fun r47 o47 H locs hp47 hM hS => ?_)
      obtain ⟨rfl, rfl⟩ := hp47
      refine W.widen (k := 1) (n := 6) (Nat.le_of_ble_eq_true rfl) (Nat.le_of_ble_eq_true rfl) ?_
      exact qI (mSpec_n (show kAC a b c1 c2 c3 = (1 : Int32) from by simp [kAC, bI, hb7, hb18]) (by decide) rfl) X hM hS hret hlk dX6_addCoupon_50
  · refine lv_if_eq (tgt := 45) X.1 X.2.1 dX6_addCoupon_10 (by decide) (fun h10 => ?_) (fun h10 => absurd (by decide) h10)
    refine lv_aload_n X.1 X.2.1 dX6_addCoupon_45 rfl (lv_at hl 0 rfl) ?_
    refine lv_iconst (v := 1) X.1 X.2.1 dX6_addCoupon_46 (by decide) ?_
    refine kMI (As := [_]) X hM hS hl.1 c_X6_fail rfl kl_X6_58 mf_X6_fail ⟨Nat.le_of_ble_eq_true rfl, Nat.le_of_ble_eq_true rfl⟩ ⟨Nat.zero_le _, Nat.zero_le _⟩ rfl (Nat.le_of_ble_eq_true rfl) dX6_addCoupon_47 (fun r47 o47 H locs hp47 hM hS => ?_)
    obtain ⟨rfl, rfl⟩ := hp47
    refine W.widen (k := 1) (n := 6) (Nat.le_of_ble_eq_true rfl) (Nat.le_of_ble_eq_true rfl) ?_
    exact qI (mSpec_n (show kAC a b c1 c2 c3 = (1 : Int32) from by simp [kAC, bI, hb7]) (by decide) rfl) X hM hS hret hlk dX6_addCoupon_50

/-- the object as it is born -/
abbrev mNew : List Value := [.int 0, .int 0, .null, .null, .null, .int 0, .int 0, .int 0, .null, .int 0, .null, .null, .null, .int 0, .null, .null]
abbrev jPc (J : mG) (E : Nat → va_E) : Array Value → State → Prop := va_Pc [.ref (ja J 0)] (fun U => jM J E 1 U.heap ∧ mK J U)
abbrev jQ (J : mG) : Array Value → State → Outcome → State → Prop := va_Qv (fun (_ : Unit) => True) (fun _ t => mM J (oF 0) t.heap ∧ t.heap.size = J.2.2 + 10) (jA J)
theorem jPc_blind (J : mG) (E : Nat → va_E) : FrameBlind (jPc J E) := fun a U g mk q => by
  obtain ⟨q0, q1, q2⟩ := q
  exact ⟨q0, q1, q2.calling⟩
set_option maxHeartbeats 4000000 in
set_option maxRecDepth 100000 in
theorem c_X6_init {l : Launch} {J : mG} {E : Nat → va_E} (hE : E 0 = .inr (0, mNew)) : Met l yX6_init (wsD yX6_init cX6_init 1 none) (rmC 1 9 474) (jPc J E) (jQ J) 9 474 (jA J) := by
  refine Met.ofW (cc := cX6_init) (maxL := 1) (ret := none) (by decide +kernel) rfl ?_
  intro p e s m args below meth c s₁ B hml hv
  obtain ⟨rfl, hP, hK⟩ := hv
  have hts := atoms_spec (ws := wsD yX6_init cX6_init 1 none) B.pre
  have hl := lv_entry [Value.ref (ja J 0)] (n := 1) (Nat.le_of_ble_eq_true rfl)
  rw [lg_entry_eq]
  have X : mC p s m _ c cX6_init 1 RX6 J := ⟨B.exec, B.bytes, hml, findClass_of_methodNamed B.named, fun w h => hts w (List.mem_cons_of_mem _ h), hK⟩
  have hini : meth.name = "<init>" := (name_of_methodNamed B.named B.method).1.trans rfl
  have hret := B.returns
  have hlk := B.notSynchronized
  generalize (lg_sl ([Value.ref (ja J 0)]) ++ List.replicate (1 - (lg_sl ([Value.ref (ja J 0)])).length) Slot.unset).toArray = ls at hl ⊢
  have hS : jS J s.heap s.heap [] := va_S.rf
  replace hl : lv_has ls 1 [(0, .ref (ja J 0))] := hl
  refine lv_aload_n X.1 X.2.1 dX6_init_0 rfl (lv_at hl 0 rfl) ?_
  refine W.objInit X.1 X.2.1 X.2.2.2.1 (X.2.2.2.2.1 _ kl_X6_1) (X.2.2.2.2.1 _ mi_obj.1) (X.2.2.2.2.1 _ mi_obj.2) rfl (by rw [X.2.2.1]; exact hl.1) rfl dX6_init_1 (Nat.le_of_ble_eq_true rfl) (Nat.le_of_ble_eq_true rfl) ?_
  refine W.eq (g2 := F0 m 4 ls []) rfl ?_
  refine lv_aload_n X.1 X.2.1 dX6_init_4 rfl (lv_at hl 0 rfl) ?_
  refine lv_bipush (v := 10) X.1 X.2.1 dX6_init_5 (by decide) ?_
  refine j_newI (N := 10) (k := 1) X hP hS ka_int (by decide) (Nat.le_of_ble_eq_true rfl) (Nat.le_of_ble_eq_true rfl) dX6_init_7 (fun H hP hS => ?_)
  refine j_putF (ty := .array .int) (i := 0) (fs' := [.int 0, .int 0, .ref (ja J 1), .null, .null, .int 0, .int 0, .int 0, .null, .int 0, .null, .null, .null, .int 0, .null, .null]) (ci := 0) (C := RX6) (T := TX6) (N := 16) X hini hP hS inA6 tyX6_ok nmX6 (by decide) ((va_up_ne _ _ (by decide)).trans hE) rfl 2 (by decide) kl_X6_9 rfl rfl (by decide +kernel) rfl rfl (Nat.le_of_ble_eq_true rfl) rfl dX6_init_9 (fun H locs hP hS => ?_)
  refine lv_aload_n X.1 X.2.1 dX6_init_12 rfl (lv_at hl 0 rfl) ?_
  refine lv_sipush (v := 130) X.1 X.2.1 dX6_init_13 (by decide) ?_
  refine j_newI (N := 130) (k := 2) X hP hS ka_int (by decide) (Nat.le_of_ble_eq_true rfl) (Nat.le_of_ble_eq_true rfl) dX6_init_16 (fun H hP hS => ?_)
  refine j_putF (ty := .array .int) (i := 0) (fs' := [.int 0, .int 0, .ref (ja J 1), .ref (ja J 2), .null, .int 0, .int 0, .int 0, .null, .int 0, .null, .null, .null, .int 0, .null, .null]) (ci := 0) (C := RX6) (T := TX6) (N := 16) X hini hP hS inA6 tyX6_ok nmX6 (by decide) rfl rfl 3 (by decide) kl_X6_13 rfl rfl (by decide +kernel) rfl rfl (Nat.le_of_ble_eq_true rfl) rfl dX6_init_18 (fun H locs hP hS => ?_)
  refine lv_aload_n X.1 X.2.1 dX6_init_21 rfl (lv_at hl 0 rfl) ?_
  refine lv_sipush (v := 130) X.1 X.2.1 dX6_init_22 (by decide) ?_
  refine j_newI (N := 130) (k := 3) X hP hS ka_int (by decide) (Nat.le_of_ble_eq_true rfl) (Nat.le_of_ble_eq_true rfl) dX6_init_25 (fun H hP hS => ?_)
  refine j_putF (ty := .array .int) (i := 0) (fs' := [.int 0, .int 0, .ref (ja J 1), .ref (ja J 2), .ref (ja J 3), .int 0, .int 0, .int 0, .null, .int 0, .null, .null, .null, .int 0, .null, .null]) (ci := 0) (C := RX6) (T := TX6) (N := 16) X hini hP hS inA6 tyX6_ok nmX6 (by decide) rfl rfl 4 (by decide) kl_X6_16 rfl rfl (by decide +kernel) rfl rfl (Nat.le_of_ble_eq_true rfl) rfl dX6_init_27 (fun H locs hP hS => ?_)
  refine lv_aload_n X.1 X.2.1 dX6_init_30 rfl (lv_at hl 0 rfl) ?_
  refine lv_ldc (v := 1000000) X.1 X.2.1 X.2.2.2.1 (X.2.2.2.2.1 _ kl_X6_19) dX6_init_31 ?_
  refine j_put (ty := .int) (i := 0) (fs' := [.int 0, .int 0, .ref (ja J 1), .ref (ja J 2), .ref (ja J 3), .int 0, .int 1000000, .int 0, .null, .int 0, .null, .null, .null, .int 0, .null, .null]) (ci := 0) (C := RX6) (T := TX6) (N := 16) X hP hS inA6 tyX6_ok nmX6 (by decide) rfl rfl 6 (by decide) kl_X6_20 rfl rfl (by decide +kernel) rfl rfl (Nat.le_of_ble_eq_true rfl) rfl dX6_init_33 (fun H locs hP hS => ?_)
  refine lv_aload_n X.1 X.2.1 dX6_init_36 rfl (lv_at hl 0 rfl) ?_
  refine lv_bipush (v := 48) X.1 X.2.1 dX6_init_37 (by decide) ?_
  refine j_newI (N := 48) (k := 4) X hP hS ka_int (by decide) (Nat.le_of_ble_eq_true rfl) (Nat.le_of_ble_eq_true rfl) dX6_init_39 (fun H hP hS => ?_)
  refine j_putF (ty := .array .int) (i := 0) (fs' := [.int 0, .int 0, .ref (ja J 1), .ref (ja J 2), .ref (ja J 3), .int 0, .int 1000000, .int 0, .ref (ja J 4), .int 0, .null, .null, .null, .int 0, .null, .null]) (ci := 0) (C := RX6) (T := TX6) (N := 16) X hini hP hS inA6 tyX6_ok nmX6 (by decide) rfl rfl 8 (by decide) kl_X6_24 rfl rfl (by decide +kernel) rfl rfl (Nat.le_of_ble_eq_true rfl) rfl dX6_init_41 (fun H locs hP hS => ?_)
  refine lv_aload_n X.1 X.2.1 dX6_init_44 rfl (lv_at hl 0 rfl) ?_
  refine lv_bipush (v := 12) X.1 X.2.1 dX6_init_45 (by decide) ?_
  refine j_newI (N := 12) (k := 5) X hP hS ka_int (by decide) (Nat.le_of_ble_eq_true rfl) (Nat.le_of_ble_eq_true rfl) dX6_init_47 (fun H hP hS => ?_)
  refine j_putF (ty := .array .int) (i := 0) (fs' := [.int 0, .int 0, .ref (ja J 1), .ref (ja J 2), .ref (ja J 3), .int 0, .int 1000000, .int 0, .ref (ja J 4), .int 0, .ref (ja J 5), .null, .null, .int 0, .null, .null]) (ci := 0) (C := RX6) (T := TX6) (N := 16) X hini hP hS inA6 tyX6_ok nmX6 (by decide) rfl rfl 10 (by decide) kl_X6_27 rfl rfl (by decide +kernel) rfl rfl (Nat.le_of_ble_eq_true rfl) rfl dX6_init_49 (fun H locs hP hS => ?_)
  refine lv_aload_n X.1 X.2.1 dX6_init_52 rfl (lv_at hl 0 rfl) ?_
  refine lv_bipush (v := 12) X.1 X.2.1 dX6_init_53 (by decide) ?_
  refine j_newI (N := 12) (k := 6) X hP hS ka_int (by decide) (Nat.le_of_ble_eq_true rfl) (Nat.le_of_ble_eq_true rfl) dX6_init_55 (fun H hP hS => ?_)
  refine j_putF (ty := .array .int) (i := 0) (fs' := [.int 0, .int 0, .ref (ja J 1), .ref (ja J 2), .ref (ja J 3), .int 0, .int 1000000, .int 0, .ref (ja J 4), .int 0, .ref (ja J 5), .ref (ja J 6), .null, .int 0, .null, .null]) (ci := 0) (C := RX6) (T := TX6) (N := 16) X hini hP hS inA6 tyX6_ok nmX6 (by decide) rfl rfl 11 (by decide) kl_X6_30 rfl rfl (by decide +kernel) rfl rfl (Nat.le_of_ble_eq_true rfl) rfl dX6_init_57 (fun H locs hP hS => ?_)
  refine lv_aload_n X.1 X.2.1 dX6_init_60 rfl (lv_at hl 0 rfl) ?_
  refine lv_bipush (v := 12) X.1 X.2.1 dX6_init_61 (by decide) ?_
  refine j_newI (N := 12) (k := 7) X hP hS ka_int (by decide) (Nat.le_of_ble_eq_true rfl) (Nat.le_of_ble_eq_true rfl) dX6_init_63 (fun H hP hS => ?_)
  refine j_putF (ty := .array .int) (i := 0) (fs' := [.int 0, .int 0, .ref (ja J 1), .ref (ja J 2), .ref (ja J 3), .int 0, .int 1000000, .int 0, .ref (ja J 4), .int 0, .ref (ja J 5), .ref (ja J 6), .ref (ja J 7), .int 0, .null, .null]) (ci := 0) (C := RX6) (T := TX6) (N := 16) X hini hP hS inA6 tyX6_ok nmX6 (by decide) rfl rfl 12 (by decide) kl_X6_33 rfl rfl (by decide +kernel) rfl rfl (Nat.le_of_ble_eq_true rfl) rfl dX6_init_65 (fun H locs hP hS => ?_)
  refine lv_aload_n X.1 X.2.1 dX6_init_68 rfl (lv_at hl 0 rfl) ?_
  refine lv_bipush (v := 60) X.1 X.2.1 dX6_init_69 (by decide) ?_
  refine j_newI (N := 60) (k := 8) X hP hS ka_int (by decide) (Nat.le_of_ble_eq_true rfl) (Nat.le_of_ble_eq_true rfl) dX6_init_71 (fun H hP hS => ?_)
  refine j_putF (ty := .array .int) (i := 0) (fs' := [.int 0, .int 0, .ref (ja J 1), .ref (ja J 2), .ref (ja J 3), .int 0, .int 1000000, .int 0, .ref (ja J 4), .int 0, .ref (ja J 5), .ref (ja J 6), .ref (ja J 7), .int 0, .ref (ja J 8), .null]) (ci := 0) (C := RX6) (T := TX6) (N := 16) X hini hP hS inA6 tyX6_ok nmX6 (by decide) rfl rfl 14 (by decide) kl_X6_36 rfl rfl (by decide +kernel) rfl rfl (Nat.le_of_ble_eq_true rfl) rfl dX6_init_73 (fun H locs hP hS => ?_)
  refine lv_aload_n X.1 X.2.1 dX6_init_76 rfl (lv_at hl 0 rfl) ?_
  refine lv_bipush (v := 60) X.1 X.2.1 dX6_init_77 (by decide) ?_
  refine j_newI (N := 60) (k := 9) X hP hS ka_int (by decide) (Nat.le_of_ble_eq_true rfl) (Nat.le_of_ble_eq_true rfl) dX6_init_79 (fun H hP hS => ?_)
  refine j_putF (ty := .array .int) (i := 0) (fs' := [.int 0, .int 0, .ref (ja J 1), .ref (ja J 2), .ref (ja J 3), .int 0, .int 1000000, .int 0, .ref (ja J 4), .int 0, .ref (ja J 5), .ref (ja J 6), .ref (ja J 7), .int 0, .ref (ja J 8), .ref (ja J 9)]) (ci := 0) (C := RX6) (T := TX6) (N := 16) X hini hP hS inA6 tyX6_ok nmX6 (by decide) rfl rfl 15 (by decide) kl_X6_39 rfl rfl (by decide +kernel) rfl rfl (Nat.le_of_ble_eq_true rfl) rfl dX6_init_81 (fun H locs hP hS => ?_)
  refine W.vret X.1 X.2.1 hret (fun t ht hW => ⟨⟨(), rfl, trivial, ?_, by rw [ht]; exact hP.1⟩, hS.F ht⟩) hS.2.2 dX6_init_84 hlk
  rw [ht]
  refine ⟨fun _ _ => 0, fun k q hk => ?_⟩
  have hk10 : k < 10 := (List.getElem?_eq_some_iff.mp hk).1
  rcases (show k = 0 ∨ k = 1 ∨ k = 2 ∨ k = 3 ∨ k = 4 ∨ k = 5 ∨ k = 6 ∨ k = 7 ∨ k = 8 ∨ k = 9 by omega) with rfl | rfl | rfl | rfl | rfl | rfl | rfl | rfl | rfl | rfl <;> (cases hk; exact hP.2 _ (by decide))
